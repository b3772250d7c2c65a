theorem dX8_init_0 : decode cX8_init 0 = .ok (.aload_n 0, 1) := by decide +kernel
theorem dX8_init_1 : decode cX8_init 1 = .ok (.invokespecial 1, 3) := by decide +kernel
theorem dX8_init_4 : decode cX8_init 4 = .ok (.aload_n 0, 1) := by decide +kernel
theorem dX8_init_5 : decode cX8_init 5 = .ok (.bipush 6, 2) := by decide +kernel
theorem dX8_init_7 : decode cX8_init 7 = .ok (.newarray .int, 2) := by decide +kernel
theorem dX8_init_9 : decode cX8_init 9 = .ok (.putfield 9, 3) := by decide +kernel
theorem dX8_init_12 : decode cX8_init 12 = .ok (.aload_n 0, 1) := by decide +kernel
theorem dX8_init_13 : decode cX8_init 13 = .ok (.bipush 6, 2) := by decide +kernel
theorem dX8_init_15 : decode cX8_init 15 = .ok (.newarray .int, 2) := by decide +kernel
theorem dX8_init_17 : decode cX8_init 17 = .ok (.putfield 13, 3) := by decide +kernel
theorem dX8_init_20 : decode cX8_init 20 = .ok (.aload_n 0, 1) := by decide +kernel
theorem dX8_init_21 : decode cX8_init 21 = .ok (.new 16, 3) := by decide +kernel
theorem dX8_init_24 : decode cX8_init 24 = .ok (.dup, 1) := by decide +kernel
theorem dX8_init_25 : decode cX8_init 25 = .ok (.invokespecial 18, 3) := by decide +kernel
theorem dX8_init_28 : decode cX8_init 28 = .ok (.putfield 19, 3) := by decide +kernel
theorem dX8_init_31 : decode cX8_init 31 = .ok (.aload_n 0, 1) := by decide +kernel
theorem dX8_init_32 : decode cX8_init 32 = .ok (.new 23, 3) := by decide +kernel
theorem dX8_init_35 : decode cX8_init 35 = .ok (.dup, 1) := by decide +kernel
theorem dX8_init_36 : decode cX8_init 36 = .ok (.invokespecial 25, 3) := by decide +kernel
theorem dX8_init_39 : decode cX8_init 39 = .ok (.putfield 26, 3) := by decide +kernel
theorem dX8_init_42 : decode cX8_init 42 = .ok (.aload_n 0, 1) := by decide +kernel
theorem dX8_init_43 : decode cX8_init 43 = .ok (.new 30, 3) := by decide +kernel
theorem dX8_init_46 : decode cX8_init 46 = .ok (.dup, 1) := by decide +kernel
theorem dX8_init_47 : decode cX8_init 47 = .ok (.invokespecial 32, 3) := by decide +kernel
theorem dX8_init_50 : decode cX8_init 50 = .ok (.putfield 33, 3) := by decide +kernel
theorem dX8_init_53 : decode cX8_init 53 = .ok (.aload_n 0, 1) := by decide +kernel
theorem dX8_init_54 : decode cX8_init 54 = .ok (.new 37, 3) := by decide +kernel
theorem dX8_init_57 : decode cX8_init 57 = .ok (.dup, 1) := by decide +kernel
theorem dX8_init_58 : decode cX8_init 58 = .ok (.invokespecial 39, 3) := by decide +kernel
theorem dX8_init_61 : decode cX8_init 61 = .ok (.putfield 40, 3) := by decide +kernel
theorem dX8_init_64 : decode cX8_init 64 = .ok (.aload_n 0, 1) := by decide +kernel
theorem dX8_init_65 : decode cX8_init 65 = .ok (.new 44, 3) := by decide +kernel
theorem dX8_init_68 : decode cX8_init 68 = .ok (.dup, 1) := by decide +kernel
theorem dX8_init_69 : decode cX8_init 69 = .ok (.invokespecial 46, 3) := by decide +kernel
theorem dX8_init_72 : decode cX8_init 72 = .ok (.putfield 47, 3) := by decide +kernel
theorem dX8_init_75 : decode cX8_init 75 = .ok (.aload_n 0, 1) := by decide +kernel
theorem dX8_init_76 : decode cX8_init 76 = .ok (.new 51, 3) := by decide +kernel
theorem dX8_init_79 : decode cX8_init 79 = .ok (.dup, 1) := by decide +kernel
theorem dX8_init_80 : decode cX8_init 80 = .ok (.invokespecial 53, 3) := by decide +kernel
theorem dX8_init_83 : decode cX8_init 83 = .ok (.putfield 54, 3) := by decide +kernel
theorem dX8_init_86 : decode cX8_init 86 = .ok (.aload_n 0, 1) := by decide +kernel
theorem dX8_init_87 : decode cX8_init 87 = .ok (.bipush 6, 2) := by decide +kernel
theorem dX8_init_89 : decode cX8_init 89 = .ok (.newarray .int, 2) := by decide +kernel
theorem dX8_init_91 : decode cX8_init 91 = .ok (.putfield 58, 3) := by decide +kernel
theorem dX8_init_94 : decode cX8_init 94 = .ok (.aload_n 0, 1) := by decide +kernel
theorem dX8_init_95 : decode cX8_init 95 = .ok (.bipush 6, 2) := by decide +kernel
theorem dX8_init_97 : decode cX8_init 97 = .ok (.newarray .int, 2) := by decide +kernel
theorem dX8_init_99 : decode cX8_init 99 = .ok (.putfield 61, 3) := by decide +kernel
theorem dX8_init_102 : decode cX8_init 102 = .ok (.aload_n 0, 1) := by decide +kernel
theorem dX8_init_103 : decode cX8_init 103 = .ok (.bipush 6, 2) := by decide +kernel
theorem dX8_init_105 : decode cX8_init 105 = .ok (.newarray .int, 2) := by decide +kernel
theorem dX8_init_107 : decode cX8_init 107 = .ok (.putfield 64, 3) := by decide +kernel
theorem dX8_init_110 : decode cX8_init 110 = .ok (.aload_n 0, 1) := by decide +kernel
theorem dX8_init_111 : decode cX8_init 111 = .ok (.invokevirtual 67, 3) := by decide +kernel
theorem dX8_init_114 : decode cX8_init 114 = .ok (.return_, 1) := by decide +kernel
theorem dX8_init__0 : decode cX8_init_ 0 = .ok (.aload_n 0, 1) := by decide +kernel
theorem dX8_init__1 : decode cX8_init_ 1 = .ok (.getfield 9, 3) := by decide +kernel
theorem dX8_init__4 : decode cX8_init_ 4 = .ok (.iconst 0, 1) := by decide +kernel
theorem dX8_init__5 : decode cX8_init_ 5 = .ok (.invokestatic 70, 3) := by decide +kernel
theorem dX8_init__8 : decode cX8_init_ 8 = .ok (.aload_n 0, 1) := by decide +kernel
theorem dX8_init__9 : decode cX8_init_ 9 = .ok (.getfield 13, 3) := by decide +kernel
theorem dX8_init__12 : decode cX8_init_ 12 = .ok (.iconst 0, 1) := by decide +kernel
theorem dX8_init__13 : decode cX8_init_ 13 = .ok (.invokestatic 70, 3) := by decide +kernel
theorem dX8_init__16 : decode cX8_init_ 16 = .ok (.aload_n 0, 1) := by decide +kernel
theorem dX8_init__17 : decode cX8_init_ 17 = .ok (.getfield 19, 3) := by decide +kernel
theorem dX8_init__20 : decode cX8_init_ 20 = .ok (.invokevirtual 76, 3) := by decide +kernel
theorem dX8_init__23 : decode cX8_init_ 23 = .ok (.aload_n 0, 1) := by decide +kernel
theorem dX8_init__24 : decode cX8_init_ 24 = .ok (.getfield 26, 3) := by decide +kernel
theorem dX8_init__27 : decode cX8_init_ 27 = .ok (.invokevirtual 79, 3) := by decide +kernel
theorem dX8_init__30 : decode cX8_init_ 30 = .ok (.aload_n 0, 1) := by decide +kernel
theorem dX8_init__31 : decode cX8_init_ 31 = .ok (.getfield 33, 3) := by decide +kernel
theorem dX8_init__34 : decode cX8_init_ 34 = .ok (.getfield 80, 3) := by decide +kernel
theorem dX8_init__37 : decode cX8_init_ 37 = .ok (.invokevirtual 84, 3) := by decide +kernel
theorem dX8_init__40 : decode cX8_init_ 40 = .ok (.aload_n 0, 1) := by decide +kernel
theorem dX8_init__41 : decode cX8_init_ 41 = .ok (.getfield 47, 3) := by decide +kernel
theorem dX8_init__44 : decode cX8_init_ 44 = .ok (.invokevirtual 87, 3) := by decide +kernel
theorem dX8_init__47 : decode cX8_init_ 47 = .ok (.aload_n 0, 1) := by decide +kernel
theorem dX8_init__48 : decode cX8_init_ 48 = .ok (.getfield 54, 3) := by decide +kernel
theorem dX8_init__51 : decode cX8_init_ 51 = .ok (.invokevirtual 88, 3) := by decide +kernel
theorem dX8_init__54 : decode cX8_init_ 54 = .ok (.aload_n 0, 1) := by decide +kernel
theorem dX8_init__55 : decode cX8_init_ 55 = .ok (.iconst 0, 1) := by decide +kernel
theorem dX8_init__56 : decode cX8_init_ 56 = .ok (.putfield 89, 3) := by decide +kernel
theorem dX8_init__59 : decode cX8_init_ 59 = .ok (.aload_n 0, 1) := by decide +kernel
theorem dX8_init__60 : decode cX8_init_ 60 = .ok (.iconst 0, 1) := by decide +kernel
theorem dX8_init__61 : decode cX8_init_ 61 = .ok (.putfield 93, 3) := by decide +kernel
theorem dX8_init__64 : decode cX8_init_ 64 = .ok (.aload_n 0, 1) := by decide +kernel
theorem dX8_init__65 : decode cX8_init_ 65 = .ok (.iconst 0, 1) := by decide +kernel
theorem dX8_init__66 : decode cX8_init_ 66 = .ok (.putfield 96, 3) := by decide +kernel
theorem dX8_init__69 : decode cX8_init_ 69 = .ok (.aload_n 0, 1) := by decide +kernel
theorem dX8_init__70 : decode cX8_init_ 70 = .ok (.iconst 0, 1) := by decide +kernel
theorem dX8_init__71 : decode cX8_init_ 71 = .ok (.putfield 99, 3) := by decide +kernel
theorem dX8_init__74 : decode cX8_init_ 74 = .ok (.return_, 1) := by decide +kernel
theorem dX8_setInit_0 : decode cX8_setInit 0 = .ok (.iload_n 1, 1) := by decide +kernel
theorem dX8_setInit_1 : decode cX8_setInit 1 = .ok (.invokestatic 103, 3) := by decide +kernel
theorem dX8_setInit_4 : decode cX8_setInit 4 = .ok (.ifCond .ne 5, 3) := by decide +kernel
theorem dX8_setInit_7 : decode cX8_setInit 7 = .ok (.iconst (-1), 1) := by decide +kernel
theorem dX8_setInit_8 : decode cX8_setInit 8 = .ok (.ireturn, 1) := by decide +kernel
theorem dX8_setInit_9 : decode cX8_setInit 9 = .ok (.aload_n 0, 1) := by decide +kernel
theorem dX8_setInit_10 : decode cX8_setInit 10 = .ok (.getfield 89, 3) := by decide +kernel
theorem dX8_setInit_13 : decode cX8_setInit 13 = .ok (.ifCond .eq 6, 3) := by decide +kernel
theorem dX8_setInit_16 : decode cX8_setInit 16 = .ok (.bipush (-2), 2) := by decide +kernel
theorem dX8_setInit_18 : decode cX8_setInit 18 = .ok (.ireturn, 1) := by decide +kernel
theorem dX8_setInit_19 : decode cX8_setInit 19 = .ok (.aload_n 0, 1) := by decide +kernel
theorem dX8_setInit_20 : decode cX8_setInit 20 = .ok (.getfield 9, 3) := by decide +kernel
theorem dX8_setInit_23 : decode cX8_setInit 23 = .ok (.iload_n 1, 1) := by decide +kernel
theorem dX8_setInit_24 : decode cX8_setInit 24 = .ok (.iload_n 2, 1) := by decide +kernel
theorem dX8_setInit_25 : decode cX8_setInit 25 = .ok (.iastore, 1) := by decide +kernel
theorem dX8_setInit_26 : decode cX8_setInit 26 = .ok (.iconst 0, 1) := by decide +kernel
theorem dX8_setInit_27 : decode cX8_setInit 27 = .ok (.ireturn, 1) := by decide +kernel
theorem dX8_setSymGroup_0 : decode cX8_setSymGroup 0 = .ok (.iload_n 1, 1) := by decide +kernel
theorem dX8_setSymGroup_1 : decode cX8_setSymGroup 1 = .ok (.invokestatic 103, 3) := by decide +kernel
theorem dX8_setSymGroup_4 : decode cX8_setSymGroup 4 = .ok (.ifCond .eq 12, 3) := by decide +kernel
theorem dX8_setSymGroup_7 : decode cX8_setSymGroup 7 = .ok (.iload_n 2, 1) := by decide +kernel
theorem dX8_setSymGroup_8 : decode cX8_setSymGroup 8 = .ok (.ifCond .lt 8, 3) := by decide +kernel
theorem dX8_setSymGroup_11 : decode cX8_setSymGroup 11 = .ok (.iload_n 2, 1) := by decide +kernel
theorem dX8_setSymGroup_12 : decode cX8_setSymGroup 12 = .ok (.iconst 3, 1) := by decide +kernel
theorem dX8_setSymGroup_13 : decode cX8_setSymGroup 13 = .ok (.if_icmp .le 5, 3) := by decide +kernel
theorem dX8_setSymGroup_16 : decode cX8_setSymGroup 16 = .ok (.iconst (-1), 1) := by decide +kernel
theorem dX8_setSymGroup_17 : decode cX8_setSymGroup 17 = .ok (.ireturn, 1) := by decide +kernel
theorem dX8_setSymGroup_18 : decode cX8_setSymGroup 18 = .ok (.aload_n 0, 1) := by decide +kernel
theorem dX8_setSymGroup_19 : decode cX8_setSymGroup 19 = .ok (.getfield 89, 3) := by decide +kernel
theorem dX8_setSymGroup_22 : decode cX8_setSymGroup 22 = .ok (.ifCond .eq 6, 3) := by decide +kernel
theorem dX8_setSymGroup_25 : decode cX8_setSymGroup 25 = .ok (.bipush (-2), 2) := by decide +kernel
theorem dX8_setSymGroup_27 : decode cX8_setSymGroup 27 = .ok (.ireturn, 1) := by decide +kernel
theorem dX8_setSymGroup_28 : decode cX8_setSymGroup 28 = .ok (.aload_n 0, 1) := by decide +kernel
theorem dX8_setSymGroup_29 : decode cX8_setSymGroup 29 = .ok (.getfield 19, 3) := by decide +kernel
theorem dX8_setSymGroup_32 : decode cX8_setSymGroup 32 = .ok (.iload_n 1, 1) := by decide +kernel
theorem dX8_setSymGroup_33 : decode cX8_setSymGroup 33 = .ok (.iload_n 2, 1) := by decide +kernel
theorem dX8_setSymGroup_34 : decode cX8_setSymGroup 34 = .ok (.invokevirtual 107, 3) := by decide +kernel
theorem dX8_setSymGroup_37 : decode cX8_setSymGroup 37 = .ok (.iconst 0, 1) := by decide +kernel
theorem dX8_setSymGroup_38 : decode cX8_setSymGroup 38 = .ok (.ireturn, 1) := by decide +kernel
theorem dX8_beginRule_0 : decode cX8_beginRule 0 = .ok (.aload_n 0, 1) := by decide +kernel
theorem dX8_beginRule_1 : decode cX8_beginRule 1 = .ok (.getfield 89, 3) := by decide +kernel
theorem dX8_beginRule_4 : decode cX8_beginRule 4 = .ok (.ifCond .eq 6, 3) := by decide +kernel
theorem dX8_beginRule_7 : decode cX8_beginRule 7 = .ok (.bipush (-2), 2) := by decide +kernel
theorem dX8_beginRule_9 : decode cX8_beginRule 9 = .ok (.ireturn, 1) := by decide +kernel
theorem dX8_beginRule_10 : decode cX8_beginRule 10 = .ok (.aload_n 0, 1) := by decide +kernel
theorem dX8_beginRule_11 : decode cX8_beginRule 11 = .ok (.getfield 26, 3) := by decide +kernel
theorem dX8_beginRule_14 : decode cX8_beginRule 14 = .ok (.invokevirtual 111, 3) := by decide +kernel
theorem dX8_beginRule_17 : decode cX8_beginRule 17 = .ok (.ifCond .eq 8, 3) := by decide +kernel
theorem dX8_beginRule_20 : decode cX8_beginRule 20 = .ok (.bipush (-3), 2) := by decide +kernel
theorem dX8_beginRule_22 : decode cX8_beginRule 22 = .ok (.goto 10, 3) := by decide +kernel
theorem dX8_beginRule_25 : decode cX8_beginRule 25 = .ok (.aload_n 0, 1) := by decide +kernel
theorem dX8_beginRule_26 : decode cX8_beginRule 26 = .ok (.getfield 26, 3) := by decide +kernel
theorem dX8_beginRule_29 : decode cX8_beginRule 29 = .ok (.invokevirtual 115, 3) := by decide +kernel
theorem dX8_beginRule_32 : decode cX8_beginRule 32 = .ok (.ireturn, 1) := by decide +kernel
theorem dX8_feedRule_0 : decode cX8_feedRule 0 = .ok (.aload_n 0, 1) := by decide +kernel
theorem dX8_feedRule_1 : decode cX8_feedRule 1 = .ok (.getfield 89, 3) := by decide +kernel
theorem dX8_feedRule_4 : decode cX8_feedRule 4 = .ok (.ifCond .eq 6, 3) := by decide +kernel
theorem dX8_feedRule_7 : decode cX8_feedRule 7 = .ok (.bipush (-2), 2) := by decide +kernel
theorem dX8_feedRule_9 : decode cX8_feedRule 9 = .ok (.ireturn, 1) := by decide +kernel
theorem dX8_feedRule_10 : decode cX8_feedRule 10 = .ok (.aload_n 0, 1) := by decide +kernel
theorem dX8_feedRule_11 : decode cX8_feedRule 11 = .ok (.getfield 26, 3) := by decide +kernel
theorem dX8_feedRule_14 : decode cX8_feedRule 14 = .ok (.invokevirtual 119, 3) := by decide +kernel
theorem dX8_feedRule_17 : decode cX8_feedRule 17 = .ok (.ifCond .ne 6, 3) := by decide +kernel
theorem dX8_feedRule_20 : decode cX8_feedRule 20 = .ok (.bipush (-4), 2) := by decide +kernel
theorem dX8_feedRule_22 : decode cX8_feedRule 22 = .ok (.ireturn, 1) := by decide +kernel
theorem dX8_feedRule_23 : decode cX8_feedRule 23 = .ok (.aload_n 0, 1) := by decide +kernel
theorem dX8_feedRule_24 : decode cX8_feedRule 24 = .ok (.getfield 26, 3) := by decide +kernel
theorem dX8_feedRule_27 : decode cX8_feedRule 27 = .ok (.aload_n 0, 1) := by decide +kernel
theorem dX8_feedRule_28 : decode cX8_feedRule 28 = .ok (.getfield 26, 3) := by decide +kernel
theorem dX8_feedRule_31 : decode cX8_feedRule 31 = .ok (.invokevirtual 119, 3) := by decide +kernel
theorem dX8_feedRule_34 : decode cX8_feedRule 34 = .ok (.iconst 1, 1) := by decide +kernel
theorem dX8_feedRule_35 : decode cX8_feedRule 35 = .ok (.isub, 1) := by decide +kernel
theorem dX8_feedRule_36 : decode cX8_feedRule 36 = .ok (.invokevirtual 122, 3) := by decide +kernel
theorem dX8_feedRule_39 : decode cX8_feedRule 39 = .ok (.iload_n 1, 1) := by decide +kernel
theorem dX8_feedRule_40 : decode cX8_feedRule 40 = .ok (.invokestatic 126, 3) := by decide +kernel
theorem dX8_feedRule_43 : decode cX8_feedRule 43 = .ok (.ireturn, 1) := by decide +kernel
theorem dX8_feedInvariant_0 : decode cX8_feedInvariant 0 = .ok (.aload_n 0, 1) := by decide +kernel
theorem dX8_feedInvariant_1 : decode cX8_feedInvariant 1 = .ok (.getfield 89, 3) := by decide +kernel
theorem dX8_feedInvariant_4 : decode cX8_feedInvariant 4 = .ok (.ifCond .eq 6, 3) := by decide +kernel
theorem dX8_feedInvariant_7 : decode cX8_feedInvariant 7 = .ok (.bipush (-2), 2) := by decide +kernel
theorem dX8_feedInvariant_9 : decode cX8_feedInvariant 9 = .ok (.ireturn, 1) := by decide +kernel
theorem dX8_feedInvariant_10 : decode cX8_feedInvariant 10 = .ok (.aload_n 0, 1) := by decide +kernel
theorem dX8_feedInvariant_11 : decode cX8_feedInvariant 11 = .ok (.getfield 33, 3) := by decide +kernel
theorem dX8_feedInvariant_14 : decode cX8_feedInvariant 14 = .ok (.getfield 80, 3) := by decide +kernel
theorem dX8_feedInvariant_17 : decode cX8_feedInvariant 17 = .ok (.iload_n 1, 1) := by decide +kernel
theorem dX8_feedInvariant_18 : decode cX8_feedInvariant 18 = .ok (.invokestatic 126, 3) := by decide +kernel
theorem dX8_feedInvariant_21 : decode cX8_feedInvariant 21 = .ok (.ireturn, 1) := by decide +kernel
theorem dX8_seal_0 : decode cX8_seal 0 = .ok (.aload_n 0, 1) := by decide +kernel
theorem dX8_seal_1 : decode cX8_seal 1 = .ok (.getfield 89, 3) := by decide +kernel
theorem dX8_seal_4 : decode cX8_seal 4 = .ok (.ifCond .eq 6, 3) := by decide +kernel
theorem dX8_seal_7 : decode cX8_seal 7 = .ok (.bipush (-2), 2) := by decide +kernel
theorem dX8_seal_9 : decode cX8_seal 9 = .ok (.ireturn, 1) := by decide +kernel
theorem dX8_seal_10 : decode cX8_seal 10 = .ok (.aload_n 0, 1) := by decide +kernel
theorem dX8_seal_11 : decode cX8_seal 11 = .ok (.getfield 26, 3) := by decide +kernel
theorem dX8_seal_14 : decode cX8_seal 14 = .ok (.invokevirtual 130, 3) := by decide +kernel
theorem dX8_seal_17 : decode cX8_seal 17 = .ok (.ifCond .ne 5, 3) := by decide +kernel
theorem dX8_seal_20 : decode cX8_seal 20 = .ok (.iconst 1, 1) := by decide +kernel
theorem dX8_seal_21 : decode cX8_seal 21 = .ok (.ireturn, 1) := by decide +kernel
theorem dX8_seal_22 : decode cX8_seal 22 = .ok (.aload_n 0, 1) := by decide +kernel
theorem dX8_seal_23 : decode cX8_seal 23 = .ok (.getfield 33, 3) := by decide +kernel
theorem dX8_seal_26 : decode cX8_seal 26 = .ok (.invokevirtual 133, 3) := by decide +kernel
theorem dX8_seal_29 : decode cX8_seal 29 = .ok (.ifCond .ne 5, 3) := by decide +kernel
theorem dX8_seal_32 : decode cX8_seal 32 = .ok (.iconst 2, 1) := by decide +kernel
theorem dX8_seal_33 : decode cX8_seal 33 = .ok (.ireturn, 1) := by decide +kernel
theorem dX8_seal_34 : decode cX8_seal 34 = .ok (.aload_n 0, 1) := by decide +kernel
theorem dX8_seal_35 : decode cX8_seal 35 = .ok (.invokevirtual 136, 3) := by decide +kernel
theorem dX8_seal_38 : decode cX8_seal 38 = .ok (.ifCond .ne 5, 3) := by decide +kernel
theorem dX8_seal_41 : decode cX8_seal 41 = .ok (.iconst 3, 1) := by decide +kernel
theorem dX8_seal_42 : decode cX8_seal 42 = .ok (.ireturn, 1) := by decide +kernel
theorem dX8_seal_43 : decode cX8_seal 43 = .ok (.aload_n 0, 1) := by decide +kernel
theorem dX8_seal_44 : decode cX8_seal 44 = .ok (.iconst 1, 1) := by decide +kernel
theorem dX8_seal_45 : decode cX8_seal 45 = .ok (.putfield 89, 3) := by decide +kernel
theorem dX8_seal_48 : decode cX8_seal 48 = .ok (.aload_n 0, 1) := by decide +kernel
theorem dX8_seal_49 : decode cX8_seal 49 = .ok (.getfield 9, 3) := by decide +kernel
theorem dX8_seal_52 : decode cX8_seal 52 = .ok (.aload_n 0, 1) := by decide +kernel
theorem dX8_seal_53 : decode cX8_seal 53 = .ok (.getfield 64, 3) := by decide +kernel
theorem dX8_seal_56 : decode cX8_seal 56 = .ok (.invokestatic 139, 3) := by decide +kernel
theorem dX8_seal_59 : decode cX8_seal 59 = .ok (.aload_n 0, 1) := by decide +kernel
theorem dX8_seal_60 : decode cX8_seal 60 = .ok (.getfield 19, 3) := by decide +kernel
theorem dX8_seal_63 : decode cX8_seal 63 = .ok (.aload_n 0, 1) := by decide +kernel
theorem dX8_seal_64 : decode cX8_seal 64 = .ok (.getfield 64, 3) := by decide +kernel
theorem dX8_seal_67 : decode cX8_seal 67 = .ok (.invokevirtual 143, 3) := by decide +kernel
theorem dX8_seal_70 : decode cX8_seal 70 = .ok (.aload_n 0, 1) := by decide +kernel
theorem dX8_seal_71 : decode cX8_seal 71 = .ok (.iconst (-1), 1) := by decide +kernel
theorem dX8_seal_72 : decode cX8_seal 72 = .ok (.invokevirtual 147, 3) := by decide +kernel
theorem dX8_seal_75 : decode cX8_seal 75 = .ok (.aload_n 0, 1) := by decide +kernel
theorem dX8_seal_76 : decode cX8_seal 76 = .ok (.getfield 93, 3) := by decide +kernel
theorem dX8_seal_79 : decode cX8_seal 79 = .ok (.ifCond .eq 7, 3) := by decide +kernel
theorem dX8_seal_82 : decode cX8_seal 82 = .ok (.aload_n 0, 1) := by decide +kernel
theorem dX8_seal_83 : decode cX8_seal 83 = .ok (.invokevirtual 151, 3) := by decide +kernel
theorem dX8_seal_86 : decode cX8_seal 86 = .ok (.iconst 0, 1) := by decide +kernel
theorem dX8_seal_87 : decode cX8_seal 87 = .ok (.ireturn, 1) := by decide +kernel
theorem dX8_explore_0 : decode cX8_explore 0 = .ok (.aload_n 0, 1) := by decide +kernel
theorem dX8_explore_1 : decode cX8_explore 1 = .ok (.getfield 89, 3) := by decide +kernel
theorem dX8_explore_4 : decode cX8_explore 4 = .ok (.ifCond .ne 6, 3) := by decide +kernel
theorem dX8_explore_7 : decode cX8_explore 7 = .ok (.bipush (-2), 2) := by decide +kernel
theorem dX8_explore_9 : decode cX8_explore 9 = .ok (.ireturn, 1) := by decide +kernel
theorem dX8_explore_10 : decode cX8_explore 10 = .ok (.aload_n 0, 1) := by decide +kernel
theorem dX8_explore_11 : decode cX8_explore 11 = .ok (.getfield 96, 3) := by decide +kernel
theorem dX8_explore_14 : decode cX8_explore 14 = .ok (.ifCond .eq 6, 3) := by decide +kernel
theorem dX8_explore_17 : decode cX8_explore 17 = .ok (.bipush (-5), 2) := by decide +kernel
theorem dX8_explore_19 : decode cX8_explore 19 = .ok (.ireturn, 1) := by decide +kernel
theorem dX8_explore_20 : decode cX8_explore 20 = .ok (.aload_n 0, 1) := by decide +kernel
theorem dX8_explore_21 : decode cX8_explore 21 = .ok (.getfield 93, 3) := by decide +kernel
theorem dX8_explore_24 : decode cX8_explore 24 = .ok (.istore_n 2, 1) := by decide +kernel
theorem dX8_explore_25 : decode cX8_explore 25 = .ok (.iload_n 1, 1) := by decide +kernel
theorem dX8_explore_26 : decode cX8_explore 26 = .ok (.sipush 400, 3) := by decide +kernel
theorem dX8_explore_29 : decode cX8_explore 29 = .ok (.invokestatic 154, 3) := by decide +kernel
theorem dX8_explore_32 : decode cX8_explore 32 = .ok (.istore_n 3, 1) := by decide +kernel
theorem dX8_explore_33 : decode cX8_explore 33 = .ok (.iconst 0, 1) := by decide +kernel
theorem dX8_explore_34 : decode cX8_explore 34 = .ok (.istore 4, 2) := by decide +kernel
theorem dX8_explore_36 : decode cX8_explore 36 = .ok (.iload 4, 2) := by decide +kernel
theorem dX8_explore_38 : decode cX8_explore 38 = .ok (.iload_n 3, 1) := by decide +kernel
theorem dX8_explore_39 : decode cX8_explore 39 = .ok (.if_icmp .ge 34, 3) := by decide +kernel
theorem dX8_explore_42 : decode cX8_explore 42 = .ok (.aload_n 0, 1) := by decide +kernel
theorem dX8_explore_43 : decode cX8_explore 43 = .ok (.getfield 93, 3) := by decide +kernel
theorem dX8_explore_46 : decode cX8_explore 46 = .ok (.ifCond .ne 27, 3) := by decide +kernel
theorem dX8_explore_49 : decode cX8_explore 49 = .ok (.aload_n 0, 1) := by decide +kernel
theorem dX8_explore_50 : decode cX8_explore 50 = .ok (.getfield 96, 3) := by decide +kernel
theorem dX8_explore_53 : decode cX8_explore 53 = .ok (.ifCond .ne 20, 3) := by decide +kernel
theorem dX8_explore_56 : decode cX8_explore 56 = .ok (.aload_n 0, 1) := by decide +kernel
theorem dX8_explore_57 : decode cX8_explore 57 = .ok (.invokevirtual 160, 3) := by decide +kernel
theorem dX8_explore_60 : decode cX8_explore 60 = .ok (.ifCond .ne 13, 3) := by decide +kernel
theorem dX8_explore_63 : decode cX8_explore 63 = .ok (.aload_n 0, 1) := by decide +kernel
theorem dX8_explore_64 : decode cX8_explore 64 = .ok (.invokevirtual 163, 3) := by decide +kernel
theorem dX8_explore_67 : decode cX8_explore 67 = .ok (.iinc 4 1, 3) := by decide +kernel
theorem dX8_explore_70 : decode cX8_explore 70 = .ok (.goto (-34), 3) := by decide +kernel
theorem dX8_explore_73 : decode cX8_explore 73 = .ok (.aload_n 0, 1) := by decide +kernel
theorem dX8_explore_74 : decode cX8_explore 74 = .ok (.getfield 93, 3) := by decide +kernel
theorem dX8_explore_77 : decode cX8_explore 77 = .ok (.ifCond .eq 11, 3) := by decide +kernel
theorem dX8_explore_80 : decode cX8_explore 80 = .ok (.iload_n 2, 1) := by decide +kernel
theorem dX8_explore_81 : decode cX8_explore 81 = .ok (.ifCond .ne 7, 3) := by decide +kernel
theorem dX8_explore_84 : decode cX8_explore 84 = .ok (.aload_n 0, 1) := by decide +kernel
theorem dX8_explore_85 : decode cX8_explore 85 = .ok (.invokevirtual 151, 3) := by decide +kernel
theorem dX8_explore_88 : decode cX8_explore 88 = .ok (.aload_n 0, 1) := by decide +kernel
theorem dX8_explore_89 : decode cX8_explore 89 = .ok (.getfield 96, 3) := by decide +kernel
theorem dX8_explore_92 : decode cX8_explore 92 = .ok (.ifCond .eq 6, 3) := by decide +kernel
theorem dX8_explore_95 : decode cX8_explore 95 = .ok (.bipush (-5), 2) := by decide +kernel
theorem dX8_explore_97 : decode cX8_explore 97 = .ok (.ireturn, 1) := by decide +kernel
theorem dX8_explore_98 : decode cX8_explore 98 = .ok (.aload_n 0, 1) := by decide +kernel
theorem dX8_explore_99 : decode cX8_explore 99 = .ok (.getfield 93, 3) := by decide +kernel
theorem dX8_explore_102 : decode cX8_explore 102 = .ok (.ifCond .ne 10, 3) := by decide +kernel
theorem dX8_explore_105 : decode cX8_explore 105 = .ok (.aload_n 0, 1) := by decide +kernel
theorem dX8_explore_106 : decode cX8_explore 106 = .ok (.invokevirtual 160, 3) := by decide +kernel
theorem dX8_explore_109 : decode cX8_explore 109 = .ok (.ifCond .eq 7, 3) := by decide +kernel
theorem dX8_explore_112 : decode cX8_explore 112 = .ok (.iconst 0, 1) := by decide +kernel
theorem dX8_explore_113 : decode cX8_explore 113 = .ok (.goto 4, 3) := by decide +kernel
theorem dX8_explore_116 : decode cX8_explore 116 = .ok (.iconst 1, 1) := by decide +kernel
theorem dX8_explore_117 : decode cX8_explore 117 = .ok (.ireturn, 1) := by decide +kernel
theorem dX8_verdict_0 : decode cX8_verdict 0 = .ok (.aload_n 0, 1) := by decide +kernel
theorem dX8_verdict_1 : decode cX8_verdict 1 = .ok (.getfield 93, 3) := by decide +kernel
theorem dX8_verdict_4 : decode cX8_verdict 4 = .ok (.ifCond .eq 5, 3) := by decide +kernel
theorem dX8_verdict_7 : decode cX8_verdict 7 = .ok (.iconst 2, 1) := by decide +kernel
theorem dX8_verdict_8 : decode cX8_verdict 8 = .ok (.ireturn, 1) := by decide +kernel
theorem dX8_verdict_9 : decode cX8_verdict 9 = .ok (.aload_n 0, 1) := by decide +kernel
theorem dX8_verdict_10 : decode cX8_verdict 10 = .ok (.getfield 89, 3) := by decide +kernel
theorem dX8_verdict_13 : decode cX8_verdict 13 = .ok (.ifCond .eq 14, 3) := by decide +kernel
theorem dX8_verdict_16 : decode cX8_verdict 16 = .ok (.aload_n 0, 1) := by decide +kernel
theorem dX8_verdict_17 : decode cX8_verdict 17 = .ok (.invokevirtual 160, 3) := by decide +kernel
theorem dX8_verdict_20 : decode cX8_verdict 20 = .ok (.ifCond .eq 7, 3) := by decide +kernel
theorem dX8_verdict_23 : decode cX8_verdict 23 = .ok (.iconst 1, 1) := by decide +kernel
theorem dX8_verdict_24 : decode cX8_verdict 24 = .ok (.goto 4, 3) := by decide +kernel
theorem dX8_verdict_27 : decode cX8_verdict 27 = .ok (.iconst 0, 1) := by decide +kernel
theorem dX8_verdict_28 : decode cX8_verdict 28 = .ok (.ireturn, 1) := by decide +kernel
theorem dX8_stateCount_0 : decode cX8_stateCount 0 = .ok (.aload_n 0, 1) := by decide +kernel
theorem dX8_stateCount_1 : decode cX8_stateCount 1 = .ok (.getfield 47, 3) := by decide +kernel
theorem dX8_stateCount_4 : decode cX8_stateCount 4 = .ok (.invokevirtual 166, 3) := by decide +kernel
theorem dX8_stateCount_7 : decode cX8_stateCount 7 = .ok (.ireturn, 1) := by decide +kernel
theorem dX8_traceLen_0 : decode cX8_traceLen 0 = .ok (.aload_n 0, 1) := by decide +kernel
theorem dX8_traceLen_1 : decode cX8_traceLen 1 = .ok (.getfield 93, 3) := by decide +kernel
theorem dX8_traceLen_4 : decode cX8_traceLen 4 = .ok (.ifCond .eq 13, 3) := by decide +kernel
theorem dX8_traceLen_7 : decode cX8_traceLen 7 = .ok (.aload_n 0, 1) := by decide +kernel
theorem dX8_traceLen_8 : decode cX8_traceLen 8 = .ok (.getfield 54, 3) := by decide +kernel
theorem dX8_traceLen_11 : decode cX8_traceLen 11 = .ok (.invokevirtual 167, 3) := by decide +kernel
theorem dX8_traceLen_14 : decode cX8_traceLen 14 = .ok (.goto 4, 3) := by decide +kernel
theorem dX8_traceLen_17 : decode cX8_traceLen 17 = .ok (.iconst (-1), 1) := by decide +kernel
theorem dX8_traceLen_18 : decode cX8_traceLen 18 = .ok (.ireturn, 1) := by decide +kernel
theorem dX8_traceRule_0 : decode cX8_traceRule 0 = .ok (.aload_n 0, 1) := by decide +kernel
theorem dX8_traceRule_1 : decode cX8_traceRule 1 = .ok (.getfield 93, 3) := by decide +kernel
theorem dX8_traceRule_4 : decode cX8_traceRule 4 = .ok (.ifCond .eq 14, 3) := by decide +kernel
theorem dX8_traceRule_7 : decode cX8_traceRule 7 = .ok (.aload_n 0, 1) := by decide +kernel
theorem dX8_traceRule_8 : decode cX8_traceRule 8 = .ok (.getfield 54, 3) := by decide +kernel
theorem dX8_traceRule_11 : decode cX8_traceRule 11 = .ok (.iload_n 1, 1) := by decide +kernel
theorem dX8_traceRule_12 : decode cX8_traceRule 12 = .ok (.invokevirtual 170, 3) := by decide +kernel
theorem dX8_traceRule_15 : decode cX8_traceRule 15 = .ok (.goto 4, 3) := by decide +kernel
theorem dX8_traceRule_18 : decode cX8_traceRule 18 = .ok (.iconst (-1), 1) := by decide +kernel
theorem dX8_traceRule_19 : decode cX8_traceRule 19 = .ok (.ireturn, 1) := by decide +kernel
theorem dX8_traceVar_0 : decode cX8_traceVar 0 = .ok (.aload_n 0, 1) := by decide +kernel
theorem dX8_traceVar_1 : decode cX8_traceVar 1 = .ok (.getfield 93, 3) := by decide +kernel
theorem dX8_traceVar_4 : decode cX8_traceVar 4 = .ok (.ifCond .eq 21, 3) := by decide +kernel
theorem dX8_traceVar_7 : decode cX8_traceVar 7 = .ok (.aload_n 0, 1) := by decide +kernel
theorem dX8_traceVar_8 : decode cX8_traceVar 8 = .ok (.getfield 54, 3) := by decide +kernel
theorem dX8_traceVar_11 : decode cX8_traceVar 11 = .ok (.iload_n 1, 1) := by decide +kernel
theorem dX8_traceVar_12 : decode cX8_traceVar 12 = .ok (.invokevirtual 174, 3) := by decide +kernel
theorem dX8_traceVar_15 : decode cX8_traceVar 15 = .ok (.ifCond .eq 10, 3) := by decide +kernel
theorem dX8_traceVar_18 : decode cX8_traceVar 18 = .ok (.iload_n 2, 1) := by decide +kernel
theorem dX8_traceVar_19 : decode cX8_traceVar 19 = .ok (.invokestatic 103, 3) := by decide +kernel
theorem dX8_traceVar_22 : decode cX8_traceVar 22 = .ok (.ifCond .ne 5, 3) := by decide +kernel
theorem dX8_traceVar_25 : decode cX8_traceVar 25 = .ok (.iconst 0, 1) := by decide +kernel
theorem dX8_traceVar_26 : decode cX8_traceVar 26 = .ok (.ireturn, 1) := by decide +kernel
theorem dX8_traceVar_27 : decode cX8_traceVar 27 = .ok (.aload_n 0, 1) := by decide +kernel
theorem dX8_traceVar_28 : decode cX8_traceVar 28 = .ok (.getfield 54, 3) := by decide +kernel
theorem dX8_traceVar_31 : decode cX8_traceVar 31 = .ok (.iload_n 1, 1) := by decide +kernel
theorem dX8_traceVar_32 : decode cX8_traceVar 32 = .ok (.aload_n 0, 1) := by decide +kernel
theorem dX8_traceVar_33 : decode cX8_traceVar 33 = .ok (.getfield 58, 3) := by decide +kernel
theorem dX8_traceVar_36 : decode cX8_traceVar 36 = .ok (.invokevirtual 177, 3) := by decide +kernel
theorem dX8_traceVar_39 : decode cX8_traceVar 39 = .ok (.aload_n 0, 1) := by decide +kernel
theorem dX8_traceVar_40 : decode cX8_traceVar 40 = .ok (.getfield 58, 3) := by decide +kernel
theorem dX8_traceVar_43 : decode cX8_traceVar 43 = .ok (.iload_n 2, 1) := by decide +kernel
theorem dX8_traceVar_44 : decode cX8_traceVar 44 = .ok (.iaload, 1) := by decide +kernel
theorem dX8_traceVar_45 : decode cX8_traceVar 45 = .ok (.ireturn, 1) := by decide +kernel
theorem dX8_replay_0 : decode cX8_replay 0 = .ok (.aload_n 0, 1) := by decide +kernel
theorem dX8_replay_1 : decode cX8_replay 1 = .ok (.getfield 93, 3) := by decide +kernel
theorem dX8_replay_4 : decode cX8_replay 4 = .ok (.ifCond .ne 5, 3) := by decide +kernel
theorem dX8_replay_7 : decode cX8_replay 7 = .ok (.iconst 0, 1) := by decide +kernel
theorem dX8_replay_8 : decode cX8_replay 8 = .ok (.ireturn, 1) := by decide +kernel
theorem dX8_replay_9 : decode cX8_replay 9 = .ok (.aload_n 0, 1) := by decide +kernel
theorem dX8_replay_10 : decode cX8_replay 10 = .ok (.getfield 54, 3) := by decide +kernel
theorem dX8_replay_13 : decode cX8_replay 13 = .ok (.aload_n 0, 1) := by decide +kernel
theorem dX8_replay_14 : decode cX8_replay 14 = .ok (.getfield 54, 3) := by decide +kernel
theorem dX8_replay_17 : decode cX8_replay 17 = .ok (.invokevirtual 167, 3) := by decide +kernel
theorem dX8_replay_20 : decode cX8_replay 20 = .ok (.aload_n 0, 1) := by decide +kernel
theorem dX8_replay_21 : decode cX8_replay 21 = .ok (.getfield 58, 3) := by decide +kernel
theorem dX8_replay_24 : decode cX8_replay 24 = .ok (.invokevirtual 177, 3) := by decide +kernel
theorem dX8_replay_27 : decode cX8_replay 27 = .ok (.aload_n 0, 1) := by decide +kernel
theorem dX8_replay_28 : decode cX8_replay 28 = .ok (.getfield 40, 3) := by decide +kernel
theorem dX8_replay_31 : decode cX8_replay 31 = .ok (.aload_n 0, 1) := by decide +kernel
theorem dX8_replay_32 : decode cX8_replay 32 = .ok (.getfield 33, 3) := by decide +kernel
theorem dX8_replay_35 : decode cX8_replay 35 = .ok (.aload_n 0, 1) := by decide +kernel
theorem dX8_replay_36 : decode cX8_replay 36 = .ok (.getfield 58, 3) := by decide +kernel
theorem dX8_replay_39 : decode cX8_replay 39 = .ok (.invokevirtual 181, 3) := by decide +kernel
theorem dX8_replay_42 : decode cX8_replay 42 = .ok (.ifCond .eq 7, 3) := by decide +kernel
theorem dX8_replay_45 : decode cX8_replay 45 = .ok (.iconst 0, 1) := by decide +kernel
theorem dX8_replay_46 : decode cX8_replay 46 = .ok (.goto 4, 3) := by decide +kernel
theorem dX8_replay_49 : decode cX8_replay 49 = .ok (.iconst 1, 1) := by decide +kernel
theorem dX8_replay_50 : decode cX8_replay 50 = .ok (.ireturn, 1) := by decide +kernel
theorem dX8_probeVar_0 : decode cX8_probeVar 0 = .ok (.iload_n 1, 1) := by decide +kernel
theorem dX8_probeVar_1 : decode cX8_probeVar 1 = .ok (.invokestatic 103, 3) := by decide +kernel
theorem dX8_probeVar_4 : decode cX8_probeVar 4 = .ok (.ifCond .ne 5, 3) := by decide +kernel
theorem dX8_probeVar_7 : decode cX8_probeVar 7 = .ok (.iconst (-1), 1) := by decide +kernel
theorem dX8_probeVar_8 : decode cX8_probeVar 8 = .ok (.ireturn, 1) := by decide +kernel
theorem dX8_probeVar_9 : decode cX8_probeVar 9 = .ok (.aload_n 0, 1) := by decide +kernel
theorem dX8_probeVar_10 : decode cX8_probeVar 10 = .ok (.getfield 13, 3) := by decide +kernel
theorem dX8_probeVar_13 : decode cX8_probeVar 13 = .ok (.iload_n 1, 1) := by decide +kernel
theorem dX8_probeVar_14 : decode cX8_probeVar 14 = .ok (.iload_n 2, 1) := by decide +kernel
theorem dX8_probeVar_15 : decode cX8_probeVar 15 = .ok (.iastore, 1) := by decide +kernel
theorem dX8_probeVar_16 : decode cX8_probeVar 16 = .ok (.iconst 0, 1) := by decide +kernel
theorem dX8_probeVar_17 : decode cX8_probeVar 17 = .ok (.ireturn, 1) := by decide +kernel
theorem dX8_isReachable_0 : decode cX8_isReachable 0 = .ok (.aload_n 0, 1) := by decide +kernel
theorem dX8_isReachable_1 : decode cX8_isReachable 1 = .ok (.invokevirtual 185, 3) := by decide +kernel
theorem dX8_isReachable_4 : decode cX8_isReachable 4 = .ok (.iconst 1, 1) := by decide +kernel
theorem dX8_isReachable_5 : decode cX8_isReachable 5 = .ok (.if_icmp .eq 6, 3) := by decide +kernel
theorem dX8_isReachable_8 : decode cX8_isReachable 8 = .ok (.bipush (-6), 2) := by decide +kernel
theorem dX8_isReachable_10 : decode cX8_isReachable 10 = .ok (.ireturn, 1) := by decide +kernel
theorem dX8_isReachable_11 : decode cX8_isReachable 11 = .ok (.aload_n 0, 1) := by decide +kernel
theorem dX8_isReachable_12 : decode cX8_isReachable 12 = .ok (.getfield 13, 3) := by decide +kernel
theorem dX8_isReachable_15 : decode cX8_isReachable 15 = .ok (.aload_n 0, 1) := by decide +kernel
theorem dX8_isReachable_16 : decode cX8_isReachable 16 = .ok (.getfield 64, 3) := by decide +kernel
theorem dX8_isReachable_19 : decode cX8_isReachable 19 = .ok (.invokestatic 139, 3) := by decide +kernel
theorem dX8_isReachable_22 : decode cX8_isReachable 22 = .ok (.aload_n 0, 1) := by decide +kernel
theorem dX8_isReachable_23 : decode cX8_isReachable 23 = .ok (.getfield 19, 3) := by decide +kernel
theorem dX8_isReachable_26 : decode cX8_isReachable 26 = .ok (.aload_n 0, 1) := by decide +kernel
theorem dX8_isReachable_27 : decode cX8_isReachable 27 = .ok (.getfield 64, 3) := by decide +kernel
theorem dX8_isReachable_30 : decode cX8_isReachable 30 = .ok (.invokevirtual 143, 3) := by decide +kernel
theorem dX8_isReachable_33 : decode cX8_isReachable 33 = .ok (.aload_n 0, 1) := by decide +kernel
theorem dX8_isReachable_34 : decode cX8_isReachable 34 = .ok (.getfield 47, 3) := by decide +kernel
theorem dX8_isReachable_37 : decode cX8_isReachable 37 = .ok (.aload_n 0, 1) := by decide +kernel
theorem dX8_isReachable_38 : decode cX8_isReachable 38 = .ok (.getfield 64, 3) := by decide +kernel
theorem dX8_isReachable_41 : decode cX8_isReachable 41 = .ok (.invokevirtual 188, 3) := by decide +kernel
theorem dX8_isReachable_44 : decode cX8_isReachable 44 = .ok (.iconst (-1), 1) := by decide +kernel
theorem dX8_isReachable_45 : decode cX8_isReachable 45 = .ok (.if_icmp .ne 7, 3) := by decide +kernel
theorem dX8_isReachable_48 : decode cX8_isReachable 48 = .ok (.iconst 0, 1) := by decide +kernel
theorem dX8_isReachable_49 : decode cX8_isReachable 49 = .ok (.goto 4, 3) := by decide +kernel
theorem dX8_isReachable_52 : decode cX8_isReachable 52 = .ok (.iconst 1, 1) := by decide +kernel
theorem dX8_isReachable_53 : decode cX8_isReachable 53 = .ok (.ireturn, 1) := by decide +kernel
theorem dX8_isVariable_0 : decode cX8_isVariable 0 = .ok (.iload_n 0, 1) := by decide +kernel
theorem dX8_isVariable_1 : decode cX8_isVariable 1 = .ok (.ifCond .lt 13, 3) := by decide +kernel
theorem dX8_isVariable_4 : decode cX8_isVariable 4 = .ok (.iload_n 0, 1) := by decide +kernel
theorem dX8_isVariable_5 : decode cX8_isVariable 5 = .ok (.bipush 6, 2) := by decide +kernel
theorem dX8_isVariable_7 : decode cX8_isVariable 7 = .ok (.if_icmp .ge 7, 3) := by decide +kernel
theorem dX8_isVariable_10 : decode cX8_isVariable 10 = .ok (.iconst 1, 1) := by decide +kernel
theorem dX8_isVariable_11 : decode cX8_isVariable 11 = .ok (.goto 4, 3) := by decide +kernel
theorem dX8_isVariable_14 : decode cX8_isVariable 14 = .ok (.iconst 0, 1) := by decide +kernel
theorem dX8_isVariable_15 : decode cX8_isVariable 15 = .ok (.ireturn, 1) := by decide +kernel
theorem dX8_copyState_0 : decode cX8_copyState 0 = .ok (.aload_n 0, 1) := by decide +kernel
theorem dX8_copyState_1 : decode cX8_copyState 1 = .ok (.iconst 0, 1) := by decide +kernel
theorem dX8_copyState_2 : decode cX8_copyState 2 = .ok (.aload_n 1, 1) := by decide +kernel
theorem dX8_copyState_3 : decode cX8_copyState 3 = .ok (.iconst 0, 1) := by decide +kernel
theorem dX8_copyState_4 : decode cX8_copyState 4 = .ok (.bipush 6, 2) := by decide +kernel
theorem dX8_copyState_6 : decode cX8_copyState 6 = .ok (.invokestatic 192, 3) := by decide +kernel
theorem dX8_copyState_9 : decode cX8_copyState 9 = .ok (.return_, 1) := by decide +kernel
theorem dX8_feed_0 : decode cX8_feed 0 = .ok (.iload_n 1, 1) := by decide +kernel
theorem dX8_feed_1 : decode cX8_feed 1 = .ok (.invokestatic 198, 3) := by decide +kernel
theorem dX8_feed_4 : decode cX8_feed 4 = .ok (.ifCond .ne 5, 3) := by decide +kernel
theorem dX8_feed_7 : decode cX8_feed 7 = .ok (.iconst (-1), 1) := by decide +kernel
theorem dX8_feed_8 : decode cX8_feed 8 = .ok (.ireturn, 1) := by decide +kernel
theorem dX8_feed_9 : decode cX8_feed 9 = .ok (.aload_n 0, 1) := by decide +kernel
theorem dX8_feed_10 : decode cX8_feed 10 = .ok (.invokevirtual 203, 3) := by decide +kernel
theorem dX8_feed_13 : decode cX8_feed 13 = .ok (.ifCond .eq 6, 3) := by decide +kernel
theorem dX8_feed_16 : decode cX8_feed 16 = .ok (.bipush (-3), 2) := by decide +kernel
theorem dX8_feed_18 : decode cX8_feed 18 = .ok (.ireturn, 1) := by decide +kernel
theorem dX8_feed_19 : decode cX8_feed 19 = .ok (.aload_n 0, 1) := by decide +kernel
theorem dX8_feed_20 : decode cX8_feed 20 = .ok (.iload_n 1, 1) := by decide +kernel
theorem dX8_feed_21 : decode cX8_feed 21 = .ok (.invokevirtual 204, 3) := by decide +kernel
theorem dX8_feed_24 : decode cX8_feed 24 = .ok (.iconst 0, 1) := by decide +kernel
theorem dX8_feed_25 : decode cX8_feed 25 = .ok (.ireturn, 1) := by decide +kernel
theorem dX8_blocksAreRight_0 : decode cX8_blocksAreRight 0 = .ok (.iconst 0, 1) := by decide +kernel
theorem dX8_blocksAreRight_1 : decode cX8_blocksAreRight 1 = .ok (.istore_n 1, 1) := by decide +kernel
theorem dX8_blocksAreRight_2 : decode cX8_blocksAreRight 2 = .ok (.iload_n 1, 1) := by decide +kernel
theorem dX8_blocksAreRight_3 : decode cX8_blocksAreRight 3 = .ok (.bipush 6, 2) := by decide +kernel
theorem dX8_blocksAreRight_5 : decode cX8_blocksAreRight 5 = .ok (.if_icmp .ge 63, 3) := by decide +kernel
theorem dX8_blocksAreRight_8 : decode cX8_blocksAreRight 8 = .ok (.iload_n 1, 1) := by decide +kernel
theorem dX8_blocksAreRight_9 : decode cX8_blocksAreRight 9 = .ok (.iconst 1, 1) := by decide +kernel
theorem dX8_blocksAreRight_10 : decode cX8_blocksAreRight 10 = .ok (.iadd, 1) := by decide +kernel
theorem dX8_blocksAreRight_11 : decode cX8_blocksAreRight 11 = .ok (.istore_n 2, 1) := by decide +kernel
theorem dX8_blocksAreRight_12 : decode cX8_blocksAreRight 12 = .ok (.iload_n 2, 1) := by decide +kernel
theorem dX8_blocksAreRight_13 : decode cX8_blocksAreRight 13 = .ok (.bipush 6, 2) := by decide +kernel
theorem dX8_blocksAreRight_15 : decode cX8_blocksAreRight 15 = .ok (.if_icmp .ge 47, 3) := by decide +kernel
theorem dX8_blocksAreRight_18 : decode cX8_blocksAreRight 18 = .ok (.aload_n 0, 1) := by decide +kernel
theorem dX8_blocksAreRight_19 : decode cX8_blocksAreRight 19 = .ok (.getfield 19, 3) := by decide +kernel
theorem dX8_blocksAreRight_22 : decode cX8_blocksAreRight 22 = .ok (.iload_n 1, 1) := by decide +kernel
theorem dX8_blocksAreRight_23 : decode cX8_blocksAreRight 23 = .ok (.iload_n 2, 1) := by decide +kernel
theorem dX8_blocksAreRight_24 : decode cX8_blocksAreRight 24 = .ok (.invokevirtual 207, 3) := by decide +kernel
theorem dX8_blocksAreRight_27 : decode cX8_blocksAreRight 27 = .ok (.ifCond .eq 29, 3) := by decide +kernel
theorem dX8_blocksAreRight_30 : decode cX8_blocksAreRight 30 = .ok (.aload_n 0, 1) := by decide +kernel
theorem dX8_blocksAreRight_31 : decode cX8_blocksAreRight 31 = .ok (.getfield 26, 3) := by decide +kernel
theorem dX8_blocksAreRight_34 : decode cX8_blocksAreRight 34 = .ok (.iload_n 1, 1) := by decide +kernel
theorem dX8_blocksAreRight_35 : decode cX8_blocksAreRight 35 = .ok (.iload_n 2, 1) := by decide +kernel
theorem dX8_blocksAreRight_36 : decode cX8_blocksAreRight 36 = .ok (.invokevirtual 211, 3) := by decide +kernel
theorem dX8_blocksAreRight_39 : decode cX8_blocksAreRight 39 = .ok (.ifCond .eq 15, 3) := by decide +kernel
theorem dX8_blocksAreRight_42 : decode cX8_blocksAreRight 42 = .ok (.aload_n 0, 1) := by decide +kernel
theorem dX8_blocksAreRight_43 : decode cX8_blocksAreRight 43 = .ok (.getfield 33, 3) := by decide +kernel
theorem dX8_blocksAreRight_46 : decode cX8_blocksAreRight 46 = .ok (.iload_n 1, 1) := by decide +kernel
theorem dX8_blocksAreRight_47 : decode cX8_blocksAreRight 47 = .ok (.iload_n 2, 1) := by decide +kernel
theorem dX8_blocksAreRight_48 : decode cX8_blocksAreRight 48 = .ok (.invokevirtual 214, 3) := by decide +kernel
theorem dX8_blocksAreRight_51 : decode cX8_blocksAreRight 51 = .ok (.ifCond .ne 5, 3) := by decide +kernel
theorem dX8_blocksAreRight_54 : decode cX8_blocksAreRight 54 = .ok (.iconst 0, 1) := by decide +kernel
theorem dX8_blocksAreRight_55 : decode cX8_blocksAreRight 55 = .ok (.ireturn, 1) := by decide +kernel
theorem dX8_blocksAreRight_56 : decode cX8_blocksAreRight 56 = .ok (.iinc 2 1, 3) := by decide +kernel
theorem dX8_blocksAreRight_59 : decode cX8_blocksAreRight 59 = .ok (.goto (-47), 3) := by decide +kernel
theorem dX8_blocksAreRight_62 : decode cX8_blocksAreRight 62 = .ok (.iinc 1 1, 3) := by decide +kernel
theorem dX8_blocksAreRight_65 : decode cX8_blocksAreRight 65 = .ok (.goto (-63), 3) := by decide +kernel
theorem dX8_blocksAreRight_68 : decode cX8_blocksAreRight 68 = .ok (.iconst 1, 1) := by decide +kernel
theorem dX8_blocksAreRight_69 : decode cX8_blocksAreRight 69 = .ok (.ireturn, 1) := by decide +kernel
theorem dX8_allExpanded_0 : decode cX8_allExpanded 0 = .ok (.aload_n 0, 1) := by decide +kernel
theorem dX8_allExpanded_1 : decode cX8_allExpanded 1 = .ok (.getfield 99, 3) := by decide +kernel
theorem dX8_allExpanded_4 : decode cX8_allExpanded 4 = .ok (.aload_n 0, 1) := by decide +kernel
theorem dX8_allExpanded_5 : decode cX8_allExpanded 5 = .ok (.getfield 47, 3) := by decide +kernel
theorem dX8_allExpanded_8 : decode cX8_allExpanded 8 = .ok (.invokevirtual 166, 3) := by decide +kernel
theorem dX8_allExpanded_11 : decode cX8_allExpanded 11 = .ok (.if_icmp .lt 7, 3) := by decide +kernel
theorem dX8_allExpanded_14 : decode cX8_allExpanded 14 = .ok (.iconst 1, 1) := by decide +kernel
theorem dX8_allExpanded_15 : decode cX8_allExpanded 15 = .ok (.goto 4, 3) := by decide +kernel
theorem dX8_allExpanded_18 : decode cX8_allExpanded 18 = .ok (.iconst 0, 1) := by decide +kernel
theorem dX8_allExpanded_19 : decode cX8_allExpanded 19 = .ok (.ireturn, 1) := by decide +kernel
theorem dX8_expandNext_0 : decode cX8_expandNext 0 = .ok (.aload_n 0, 1) := by decide +kernel
theorem dX8_expandNext_1 : decode cX8_expandNext 1 = .ok (.getfield 47, 3) := by decide +kernel
theorem dX8_expandNext_4 : decode cX8_expandNext 4 = .ok (.aload_n 0, 1) := by decide +kernel
theorem dX8_expandNext_5 : decode cX8_expandNext 5 = .ok (.getfield 99, 3) := by decide +kernel
theorem dX8_expandNext_8 : decode cX8_expandNext 8 = .ok (.aload_n 0, 1) := by decide +kernel
theorem dX8_expandNext_9 : decode cX8_expandNext 9 = .ok (.getfield 58, 3) := by decide +kernel
theorem dX8_expandNext_12 : decode cX8_expandNext 12 = .ok (.invokevirtual 217, 3) := by decide +kernel
theorem dX8_expandNext_15 : decode cX8_expandNext 15 = .ok (.iconst 0, 1) := by decide +kernel
theorem dX8_expandNext_16 : decode cX8_expandNext 16 = .ok (.istore_n 1, 1) := by decide +kernel
theorem dX8_expandNext_17 : decode cX8_expandNext 17 = .ok (.iload_n 1, 1) := by decide +kernel
theorem dX8_expandNext_18 : decode cX8_expandNext 18 = .ok (.aload_n 0, 1) := by decide +kernel
theorem dX8_expandNext_19 : decode cX8_expandNext 19 = .ok (.getfield 26, 3) := by decide +kernel
theorem dX8_expandNext_22 : decode cX8_expandNext 22 = .ok (.invokevirtual 119, 3) := by decide +kernel
theorem dX8_expandNext_25 : decode cX8_expandNext 25 = .ok (.if_icmp .ge 62, 3) := by decide +kernel
theorem dX8_expandNext_28 : decode cX8_expandNext 28 = .ok (.aload_n 0, 1) := by decide +kernel
theorem dX8_expandNext_29 : decode cX8_expandNext 29 = .ok (.aload_n 0, 1) := by decide +kernel
theorem dX8_expandNext_30 : decode cX8_expandNext 30 = .ok (.getfield 26, 3) := by decide +kernel
theorem dX8_expandNext_33 : decode cX8_expandNext 33 = .ok (.iload_n 1, 1) := by decide +kernel
theorem dX8_expandNext_34 : decode cX8_expandNext 34 = .ok (.invokevirtual 122, 3) := by decide +kernel
theorem dX8_expandNext_37 : decode cX8_expandNext 37 = .ok (.invokevirtual 218, 3) := by decide +kernel
theorem dX8_expandNext_40 : decode cX8_expandNext 40 = .ok (.ifCond .eq 26, 3) := by decide +kernel
theorem dX8_expandNext_43 : decode cX8_expandNext 43 = .ok (.aload_n 0, 1) := by decide +kernel
theorem dX8_expandNext_44 : decode cX8_expandNext 44 = .ok (.getfield 47, 3) := by decide +kernel
theorem dX8_expandNext_47 : decode cX8_expandNext 47 = .ok (.aload_n 0, 1) := by decide +kernel
theorem dX8_expandNext_48 : decode cX8_expandNext 48 = .ok (.getfield 64, 3) := by decide +kernel
theorem dX8_expandNext_51 : decode cX8_expandNext 51 = .ok (.invokevirtual 188, 3) := by decide +kernel
theorem dX8_expandNext_54 : decode cX8_expandNext 54 = .ok (.iconst (-1), 1) := by decide +kernel
theorem dX8_expandNext_55 : decode cX8_expandNext 55 = .ok (.if_icmp .ne 11, 3) := by decide +kernel
theorem dX8_expandNext_58 : decode cX8_expandNext 58 = .ok (.aload_n 0, 1) := by decide +kernel
theorem dX8_expandNext_59 : decode cX8_expandNext 59 = .ok (.aload_n 0, 1) := by decide +kernel
theorem dX8_expandNext_60 : decode cX8_expandNext 60 = .ok (.getfield 99, 3) := by decide +kernel
theorem dX8_expandNext_63 : decode cX8_expandNext 63 = .ok (.invokevirtual 147, 3) := by decide +kernel
theorem dX8_expandNext_66 : decode cX8_expandNext 66 = .ok (.aload_n 0, 1) := by decide +kernel
theorem dX8_expandNext_67 : decode cX8_expandNext 67 = .ok (.getfield 93, 3) := by decide +kernel
theorem dX8_expandNext_70 : decode cX8_expandNext 70 = .ok (.ifCond .ne 10, 3) := by decide +kernel
theorem dX8_expandNext_73 : decode cX8_expandNext 73 = .ok (.aload_n 0, 1) := by decide +kernel
theorem dX8_expandNext_74 : decode cX8_expandNext 74 = .ok (.getfield 96, 3) := by decide +kernel
theorem dX8_expandNext_77 : decode cX8_expandNext 77 = .ok (.ifCond .eq 4, 3) := by decide +kernel
theorem dX8_expandNext_80 : decode cX8_expandNext 80 = .ok (.return_, 1) := by decide +kernel
theorem dX8_expandNext_81 : decode cX8_expandNext 81 = .ok (.iinc 1 1, 3) := by decide +kernel
theorem dX8_expandNext_84 : decode cX8_expandNext 84 = .ok (.goto (-67), 3) := by decide +kernel
theorem dX8_expandNext_87 : decode cX8_expandNext 87 = .ok (.aload_n 0, 1) := by decide +kernel
theorem dX8_expandNext_88 : decode cX8_expandNext 88 = .ok (.dup, 1) := by decide +kernel
theorem dX8_expandNext_89 : decode cX8_expandNext 89 = .ok (.getfield 99, 3) := by decide +kernel
theorem dX8_expandNext_92 : decode cX8_expandNext 92 = .ok (.iconst 1, 1) := by decide +kernel
theorem dX8_expandNext_93 : decode cX8_expandNext 93 = .ok (.iadd, 1) := by decide +kernel
theorem dX8_expandNext_94 : decode cX8_expandNext 94 = .ok (.putfield 99, 3) := by decide +kernel
theorem dX8_expandNext_97 : decode cX8_expandNext 97 = .ok (.return_, 1) := by decide +kernel
theorem dX8_fires_0 : decode cX8_fires 0 = .ok (.aload_n 0, 1) := by decide +kernel
theorem dX8_fires_1 : decode cX8_fires 1 = .ok (.getfield 40, 3) := by decide +kernel
theorem dX8_fires_4 : decode cX8_fires 4 = .ok (.aload_n 1, 1) := by decide +kernel
theorem dX8_fires_5 : decode cX8_fires 5 = .ok (.aload_n 0, 1) := by decide +kernel
theorem dX8_fires_6 : decode cX8_fires 6 = .ok (.getfield 58, 3) := by decide +kernel
theorem dX8_fires_9 : decode cX8_fires 9 = .ok (.invokevirtual 222, 3) := by decide +kernel
theorem dX8_fires_12 : decode cX8_fires 12 = .ok (.ifCond .ne 5, 3) := by decide +kernel
theorem dX8_fires_15 : decode cX8_fires 15 = .ok (.iconst 0, 1) := by decide +kernel
theorem dX8_fires_16 : decode cX8_fires 16 = .ok (.ireturn, 1) := by decide +kernel
theorem dX8_fires_17 : decode cX8_fires 17 = .ok (.aload_n 0, 1) := by decide +kernel
theorem dX8_fires_18 : decode cX8_fires 18 = .ok (.getfield 40, 3) := by decide +kernel
theorem dX8_fires_21 : decode cX8_fires 21 = .ok (.aload_n 1, 1) := by decide +kernel
theorem dX8_fires_22 : decode cX8_fires 22 = .ok (.aload_n 0, 1) := by decide +kernel
theorem dX8_fires_23 : decode cX8_fires 23 = .ok (.getfield 58, 3) := by decide +kernel
theorem dX8_fires_26 : decode cX8_fires 26 = .ok (.aload_n 0, 1) := by decide +kernel
theorem dX8_fires_27 : decode cX8_fires 27 = .ok (.getfield 61, 3) := by decide +kernel
theorem dX8_fires_30 : decode cX8_fires 30 = .ok (.invokevirtual 226, 3) := by decide +kernel
theorem dX8_fires_33 : decode cX8_fires 33 = .ok (.aload_n 0, 1) := by decide +kernel
theorem dX8_fires_34 : decode cX8_fires 34 = .ok (.getfield 61, 3) := by decide +kernel
theorem dX8_fires_37 : decode cX8_fires 37 = .ok (.aload_n 0, 1) := by decide +kernel
theorem dX8_fires_38 : decode cX8_fires 38 = .ok (.getfield 64, 3) := by decide +kernel
theorem dX8_fires_41 : decode cX8_fires 41 = .ok (.invokestatic 139, 3) := by decide +kernel
theorem dX8_fires_44 : decode cX8_fires 44 = .ok (.aload_n 0, 1) := by decide +kernel
theorem dX8_fires_45 : decode cX8_fires 45 = .ok (.getfield 19, 3) := by decide +kernel
theorem dX8_fires_48 : decode cX8_fires 48 = .ok (.aload_n 0, 1) := by decide +kernel
theorem dX8_fires_49 : decode cX8_fires 49 = .ok (.getfield 64, 3) := by decide +kernel
theorem dX8_fires_52 : decode cX8_fires 52 = .ok (.invokevirtual 143, 3) := by decide +kernel
theorem dX8_fires_55 : decode cX8_fires 55 = .ok (.iconst 1, 1) := by decide +kernel
theorem dX8_fires_56 : decode cX8_fires 56 = .ok (.ireturn, 1) := by decide +kernel
theorem dX8_storeForm_0 : decode cX8_storeForm 0 = .ok (.aload_n 0, 1) := by decide +kernel
theorem dX8_storeForm_1 : decode cX8_storeForm 1 = .ok (.getfield 47, 3) := by decide +kernel
theorem dX8_storeForm_4 : decode cX8_storeForm 4 = .ok (.invokevirtual 230, 3) := by decide +kernel
theorem dX8_storeForm_7 : decode cX8_storeForm 7 = .ok (.ifCond .eq 9, 3) := by decide +kernel
theorem dX8_storeForm_10 : decode cX8_storeForm 10 = .ok (.aload_n 0, 1) := by decide +kernel
theorem dX8_storeForm_11 : decode cX8_storeForm 11 = .ok (.iconst 1, 1) := by decide +kernel
theorem dX8_storeForm_12 : decode cX8_storeForm 12 = .ok (.putfield 96, 3) := by decide +kernel
theorem dX8_storeForm_15 : decode cX8_storeForm 15 = .ok (.return_, 1) := by decide +kernel
theorem dX8_storeForm_16 : decode cX8_storeForm 16 = .ok (.aload_n 0, 1) := by decide +kernel
theorem dX8_storeForm_17 : decode cX8_storeForm 17 = .ok (.getfield 47, 3) := by decide +kernel
theorem dX8_storeForm_20 : decode cX8_storeForm 20 = .ok (.aload_n 0, 1) := by decide +kernel
theorem dX8_storeForm_21 : decode cX8_storeForm 21 = .ok (.getfield 64, 3) := by decide +kernel
theorem dX8_storeForm_24 : decode cX8_storeForm 24 = .ok (.iload_n 1, 1) := by decide +kernel
theorem dX8_storeForm_25 : decode cX8_storeForm 25 = .ok (.invokevirtual 231, 3) := by decide +kernel
theorem dX8_storeForm_28 : decode cX8_storeForm 28 = .ok (.aload_n 0, 1) := by decide +kernel
theorem dX8_storeForm_29 : decode cX8_storeForm 29 = .ok (.aload_n 0, 1) := by decide +kernel
theorem dX8_storeForm_30 : decode cX8_storeForm 30 = .ok (.getfield 40, 3) := by decide +kernel
theorem dX8_storeForm_33 : decode cX8_storeForm 33 = .ok (.aload_n 0, 1) := by decide +kernel
theorem dX8_storeForm_34 : decode cX8_storeForm 34 = .ok (.getfield 33, 3) := by decide +kernel
theorem dX8_storeForm_37 : decode cX8_storeForm 37 = .ok (.aload_n 0, 1) := by decide +kernel
theorem dX8_storeForm_38 : decode cX8_storeForm 38 = .ok (.getfield 64, 3) := by decide +kernel
theorem dX8_storeForm_41 : decode cX8_storeForm 41 = .ok (.invokevirtual 181, 3) := by decide +kernel
theorem dX8_storeForm_44 : decode cX8_storeForm 44 = .ok (.ifCond .ne 7, 3) := by decide +kernel
theorem dX8_storeForm_47 : decode cX8_storeForm 47 = .ok (.iconst 1, 1) := by decide +kernel
theorem dX8_storeForm_48 : decode cX8_storeForm 48 = .ok (.goto 4, 3) := by decide +kernel
theorem dX8_storeForm_51 : decode cX8_storeForm 51 = .ok (.iconst 0, 1) := by decide +kernel
theorem dX8_storeForm_52 : decode cX8_storeForm 52 = .ok (.putfield 93, 3) := by decide +kernel
theorem dX8_storeForm_55 : decode cX8_storeForm 55 = .ok (.return_, 1) := by decide +kernel
theorem dX8_layTrace_0 : decode cX8_layTrace 0 = .ok (.aload_n 0, 1) := by decide +kernel
theorem dX8_layTrace_1 : decode cX8_layTrace 1 = .ok (.getfield 54, 3) := by decide +kernel
theorem dX8_layTrace_4 : decode cX8_layTrace 4 = .ok (.aload_n 0, 1) := by decide +kernel
theorem dX8_layTrace_5 : decode cX8_layTrace 5 = .ok (.getfield 9, 3) := by decide +kernel
theorem dX8_layTrace_8 : decode cX8_layTrace 8 = .ok (.aload_n 0, 1) := by decide +kernel
theorem dX8_layTrace_9 : decode cX8_layTrace 9 = .ok (.getfield 47, 3) := by decide +kernel
theorem dX8_layTrace_12 : decode cX8_layTrace 12 = .ok (.invokevirtual 233, 3) := by decide +kernel
theorem dX8_layTrace_15 : decode cX8_layTrace 15 = .ok (.iconst 0, 1) := by decide +kernel
theorem dX8_layTrace_16 : decode cX8_layTrace 16 = .ok (.istore_n 1, 1) := by decide +kernel
theorem dX8_layTrace_17 : decode cX8_layTrace 17 = .ok (.iload_n 1, 1) := by decide +kernel
theorem dX8_layTrace_18 : decode cX8_layTrace 18 = .ok (.aload_n 0, 1) := by decide +kernel
theorem dX8_layTrace_19 : decode cX8_layTrace 19 = .ok (.getfield 54, 3) := by decide +kernel
theorem dX8_layTrace_22 : decode cX8_layTrace 22 = .ok (.invokevirtual 167, 3) := by decide +kernel
theorem dX8_layTrace_25 : decode cX8_layTrace 25 = .ok (.if_icmp .ge 108, 3) := by decide +kernel
theorem dX8_layTrace_28 : decode cX8_layTrace 28 = .ok (.aload_n 0, 1) := by decide +kernel
theorem dX8_layTrace_29 : decode cX8_layTrace 29 = .ok (.getfield 54, 3) := by decide +kernel
theorem dX8_layTrace_32 : decode cX8_layTrace 32 = .ok (.iload_n 1, 1) := by decide +kernel
theorem dX8_layTrace_33 : decode cX8_layTrace 33 = .ok (.aload_n 0, 1) := by decide +kernel
theorem dX8_layTrace_34 : decode cX8_layTrace 34 = .ok (.getfield 58, 3) := by decide +kernel
theorem dX8_layTrace_37 : decode cX8_layTrace 37 = .ok (.invokevirtual 177, 3) := by decide +kernel
theorem dX8_layTrace_40 : decode cX8_layTrace 40 = .ok (.iconst 0, 1) := by decide +kernel
theorem dX8_layTrace_41 : decode cX8_layTrace 41 = .ok (.istore_n 2, 1) := by decide +kernel
theorem dX8_layTrace_42 : decode cX8_layTrace 42 = .ok (.iconst 0, 1) := by decide +kernel
theorem dX8_layTrace_43 : decode cX8_layTrace 43 = .ok (.istore_n 3, 1) := by decide +kernel
theorem dX8_layTrace_44 : decode cX8_layTrace 44 = .ok (.iload_n 3, 1) := by decide +kernel
theorem dX8_layTrace_45 : decode cX8_layTrace 45 = .ok (.aload_n 0, 1) := by decide +kernel
theorem dX8_layTrace_46 : decode cX8_layTrace 46 = .ok (.getfield 26, 3) := by decide +kernel
theorem dX8_layTrace_49 : decode cX8_layTrace 49 = .ok (.invokevirtual 119, 3) := by decide +kernel
theorem dX8_layTrace_52 : decode cX8_layTrace 52 = .ok (.if_icmp .ge 75, 3) := by decide +kernel
theorem dX8_layTrace_55 : decode cX8_layTrace 55 = .ok (.iload_n 2, 1) := by decide +kernel
theorem dX8_layTrace_56 : decode cX8_layTrace 56 = .ok (.ifCond .ne 71, 3) := by decide +kernel
theorem dX8_layTrace_59 : decode cX8_layTrace 59 = .ok (.aload_n 0, 1) := by decide +kernel
theorem dX8_layTrace_60 : decode cX8_layTrace 60 = .ok (.aload_n 0, 1) := by decide +kernel
theorem dX8_layTrace_61 : decode cX8_layTrace 61 = .ok (.getfield 26, 3) := by decide +kernel
theorem dX8_layTrace_64 : decode cX8_layTrace 64 = .ok (.iload_n 3, 1) := by decide +kernel
theorem dX8_layTrace_65 : decode cX8_layTrace 65 = .ok (.invokevirtual 122, 3) := by decide +kernel
theorem dX8_layTrace_68 : decode cX8_layTrace 68 = .ok (.invokevirtual 218, 3) := by decide +kernel
theorem dX8_layTrace_71 : decode cX8_layTrace 71 = .ok (.ifCond .eq 31, 3) := by decide +kernel
theorem dX8_layTrace_74 : decode cX8_layTrace 74 = .ok (.aload_n 0, 1) := by decide +kernel
theorem dX8_layTrace_75 : decode cX8_layTrace 75 = .ok (.getfield 47, 3) := by decide +kernel
theorem dX8_layTrace_78 : decode cX8_layTrace 78 = .ok (.aload_n 0, 1) := by decide +kernel
theorem dX8_layTrace_79 : decode cX8_layTrace 79 = .ok (.getfield 64, 3) := by decide +kernel
theorem dX8_layTrace_82 : decode cX8_layTrace 82 = .ok (.invokevirtual 188, 3) := by decide +kernel
theorem dX8_layTrace_85 : decode cX8_layTrace 85 = .ok (.aload_n 0, 1) := by decide +kernel
theorem dX8_layTrace_86 : decode cX8_layTrace 86 = .ok (.getfield 54, 3) := by decide +kernel
theorem dX8_layTrace_89 : decode cX8_layTrace 89 = .ok (.iload_n 1, 1) := by decide +kernel
theorem dX8_layTrace_90 : decode cX8_layTrace 90 = .ok (.iconst 1, 1) := by decide +kernel
theorem dX8_layTrace_91 : decode cX8_layTrace 91 = .ok (.iadd, 1) := by decide +kernel
theorem dX8_layTrace_92 : decode cX8_layTrace 92 = .ok (.invokevirtual 236, 3) := by decide +kernel
theorem dX8_layTrace_95 : decode cX8_layTrace 95 = .ok (.if_icmp .ne 7, 3) := by decide +kernel
theorem dX8_layTrace_98 : decode cX8_layTrace 98 = .ok (.iconst 1, 1) := by decide +kernel
theorem dX8_layTrace_99 : decode cX8_layTrace 99 = .ok (.goto 4, 3) := by decide +kernel
theorem dX8_layTrace_102 : decode cX8_layTrace 102 = .ok (.iconst 0, 1) := by decide +kernel
theorem dX8_layTrace_103 : decode cX8_layTrace 103 = .ok (.istore_n 2, 1) := by decide +kernel
theorem dX8_layTrace_104 : decode cX8_layTrace 104 = .ok (.iload_n 2, 1) := by decide +kernel
theorem dX8_layTrace_105 : decode cX8_layTrace 105 = .ok (.ifCond .eq 16, 3) := by decide +kernel
theorem dX8_layTrace_108 : decode cX8_layTrace 108 = .ok (.aload_n 0, 1) := by decide +kernel
theorem dX8_layTrace_109 : decode cX8_layTrace 109 = .ok (.getfield 54, 3) := by decide +kernel
theorem dX8_layTrace_112 : decode cX8_layTrace 112 = .ok (.iload_n 1, 1) := by decide +kernel
theorem dX8_layTrace_113 : decode cX8_layTrace 113 = .ok (.iload_n 3, 1) := by decide +kernel
theorem dX8_layTrace_114 : decode cX8_layTrace 114 = .ok (.aload_n 0, 1) := by decide +kernel
theorem dX8_layTrace_115 : decode cX8_layTrace 115 = .ok (.getfield 61, 3) := by decide +kernel
theorem dX8_layTrace_118 : decode cX8_layTrace 118 = .ok (.invokevirtual 239, 3) := by decide +kernel
theorem dX8_layTrace_121 : decode cX8_layTrace 121 = .ok (.iinc 3 1, 3) := by decide +kernel
theorem dX8_layTrace_124 : decode cX8_layTrace 124 = .ok (.goto (-80), 3) := by decide +kernel
theorem dX8_layTrace_127 : decode cX8_layTrace 127 = .ok (.iinc 1 1, 3) := by decide +kernel
theorem dX8_layTrace_130 : decode cX8_layTrace 130 = .ok (.goto (-113), 3) := by decide +kernel
theorem dX8_layTrace_133 : decode cX8_layTrace 133 = .ok (.return_, 1) := by decide +kernel
