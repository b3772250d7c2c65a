theorem dX9_init_0 : decode cX9_init 0 = .ok (.aload_n 0, 1) := by decide +kernel
theorem dX9_init_1 : decode cX9_init 1 = .ok (.invokespecial 1, 3) := by decide +kernel
theorem dX9_init_4 : decode cX9_init 4 = .ok (.aload_n 0, 1) := by decide +kernel
theorem dX9_init_5 : decode cX9_init 5 = .ok (.bipush 6, 2) := by decide +kernel
theorem dX9_init_7 : decode cX9_init 7 = .ok (.newarray .int, 2) := by decide +kernel
theorem dX9_init_9 : decode cX9_init 9 = .ok (.putfield 7, 3) := by decide +kernel
theorem dX9_init_12 : decode cX9_init 12 = .ok (.aload_n 0, 1) := by decide +kernel
theorem dX9_init_13 : decode cX9_init 13 = .ok (.bipush 6, 2) := by decide +kernel
theorem dX9_init_15 : decode cX9_init 15 = .ok (.newarray .int, 2) := by decide +kernel
theorem dX9_init_17 : decode cX9_init 17 = .ok (.putfield 13, 3) := by decide +kernel
theorem dX9_init_20 : decode cX9_init 20 = .ok (.aload_n 0, 1) := by decide +kernel
theorem dX9_init_21 : decode cX9_init 21 = .ok (.bipush 6, 2) := by decide +kernel
theorem dX9_init_23 : decode cX9_init 23 = .ok (.newarray .int, 2) := by decide +kernel
theorem dX9_init_25 : decode cX9_init 25 = .ok (.putfield 16, 3) := by decide +kernel
theorem dX9_init_28 : decode cX9_init 28 = .ok (.aload_n 0, 1) := by decide +kernel
theorem dX9_init_29 : decode cX9_init 29 = .ok (.sipush 384, 3) := by decide +kernel
theorem dX9_init_32 : decode cX9_init 32 = .ok (.newarray .int, 2) := by decide +kernel
theorem dX9_init_34 : decode cX9_init 34 = .ok (.putfield 19, 3) := by decide +kernel
theorem dX9_init_37 : decode cX9_init 37 = .ok (.aload_n 0, 1) := by decide +kernel
theorem dX9_init_38 : decode cX9_init 38 = .ok (.bipush 12, 2) := by decide +kernel
theorem dX9_init_40 : decode cX9_init 40 = .ok (.newarray .int, 2) := by decide +kernel
theorem dX9_init_42 : decode cX9_init 42 = .ok (.putfield 22, 3) := by decide +kernel
theorem dX9_init_45 : decode cX9_init 45 = .ok (.aload_n 0, 1) := by decide +kernel
theorem dX9_init_46 : decode cX9_init 46 = .ok (.bipush 32, 2) := by decide +kernel
theorem dX9_init_48 : decode cX9_init 48 = .ok (.newarray .int, 2) := by decide +kernel
theorem dX9_init_50 : decode cX9_init 50 = .ok (.putfield 25, 3) := by decide +kernel
theorem dX9_init_53 : decode cX9_init 53 = .ok (.aload_n 0, 1) := by decide +kernel
theorem dX9_init_54 : decode cX9_init 54 = .ok (.sipush 2400, 3) := by decide +kernel
theorem dX9_init_57 : decode cX9_init 57 = .ok (.newarray .int, 2) := by decide +kernel
theorem dX9_init_59 : decode cX9_init 59 = .ok (.putfield 28, 3) := by decide +kernel
theorem dX9_init_62 : decode cX9_init 62 = .ok (.aload_n 0, 1) := by decide +kernel
theorem dX9_init_63 : decode cX9_init 63 = .ok (.sipush 400, 3) := by decide +kernel
theorem dX9_init_66 : decode cX9_init 66 = .ok (.newarray .int, 2) := by decide +kernel
theorem dX9_init_68 : decode cX9_init 68 = .ok (.putfield 31, 3) := by decide +kernel
theorem dX9_init_71 : decode cX9_init 71 = .ok (.aload_n 0, 1) := by decide +kernel
theorem dX9_init_72 : decode cX9_init 72 = .ok (.bipush 6, 2) := by decide +kernel
theorem dX9_init_74 : decode cX9_init 74 = .ok (.newarray .int, 2) := by decide +kernel
theorem dX9_init_76 : decode cX9_init 76 = .ok (.putfield 34, 3) := by decide +kernel
theorem dX9_init_79 : decode cX9_init 79 = .ok (.aload_n 0, 1) := by decide +kernel
theorem dX9_init_80 : decode cX9_init 80 = .ok (.bipush 6, 2) := by decide +kernel
theorem dX9_init_82 : decode cX9_init 82 = .ok (.newarray .int, 2) := by decide +kernel
theorem dX9_init_84 : decode cX9_init 84 = .ok (.putfield 37, 3) := by decide +kernel
theorem dX9_init_87 : decode cX9_init 87 = .ok (.aload_n 0, 1) := by decide +kernel
theorem dX9_init_88 : decode cX9_init 88 = .ok (.bipush 6, 2) := by decide +kernel
theorem dX9_init_90 : decode cX9_init 90 = .ok (.newarray .int, 2) := by decide +kernel
theorem dX9_init_92 : decode cX9_init 92 = .ok (.putfield 40, 3) := by decide +kernel
theorem dX9_init_95 : decode cX9_init 95 = .ok (.aload_n 0, 1) := by decide +kernel
theorem dX9_init_96 : decode cX9_init 96 = .ok (.bipush 9, 2) := by decide +kernel
theorem dX9_init_98 : decode cX9_init 98 = .ok (.newarray .int, 2) := by decide +kernel
theorem dX9_init_100 : decode cX9_init 100 = .ok (.putfield 43, 3) := by decide +kernel
theorem dX9_init_103 : decode cX9_init 103 = .ok (.aload_n 0, 1) := by decide +kernel
theorem dX9_init_104 : decode cX9_init 104 = .ok (.iconst (-1), 1) := by decide +kernel
theorem dX9_init_105 : decode cX9_init 105 = .ok (.putfield 46, 3) := by decide +kernel
theorem dX9_init_108 : decode cX9_init 108 = .ok (.return_, 1) := by decide +kernel
theorem dX9_init__0 : decode cX9_init_ 0 = .ok (.iconst 0, 1) := by decide +kernel
theorem dX9_init__1 : decode cX9_init_ 1 = .ok (.istore_n 1, 1) := by decide +kernel
theorem dX9_init__2 : decode cX9_init_ 2 = .ok (.iload_n 1, 1) := by decide +kernel
theorem dX9_init__3 : decode cX9_init_ 3 = .ok (.bipush 6, 2) := by decide +kernel
theorem dX9_init__5 : decode cX9_init_ 5 = .ok (.if_icmp .ge 30, 3) := by decide +kernel
theorem dX9_init__8 : decode cX9_init_ 8 = .ok (.aload_n 0, 1) := by decide +kernel
theorem dX9_init__9 : decode cX9_init_ 9 = .ok (.getfield 7, 3) := by decide +kernel
theorem dX9_init__12 : decode cX9_init_ 12 = .ok (.iload_n 1, 1) := by decide +kernel
theorem dX9_init__13 : decode cX9_init_ 13 = .ok (.iconst 0, 1) := by decide +kernel
theorem dX9_init__14 : decode cX9_init_ 14 = .ok (.iastore, 1) := by decide +kernel
theorem dX9_init__15 : decode cX9_init_ 15 = .ok (.aload_n 0, 1) := by decide +kernel
theorem dX9_init__16 : decode cX9_init_ 16 = .ok (.getfield 13, 3) := by decide +kernel
theorem dX9_init__19 : decode cX9_init_ 19 = .ok (.iload_n 1, 1) := by decide +kernel
theorem dX9_init__20 : decode cX9_init_ 20 = .ok (.iconst 0, 1) := by decide +kernel
theorem dX9_init__21 : decode cX9_init_ 21 = .ok (.iastore, 1) := by decide +kernel
theorem dX9_init__22 : decode cX9_init_ 22 = .ok (.aload_n 0, 1) := by decide +kernel
theorem dX9_init__23 : decode cX9_init_ 23 = .ok (.getfield 16, 3) := by decide +kernel
theorem dX9_init__26 : decode cX9_init_ 26 = .ok (.iload_n 1, 1) := by decide +kernel
theorem dX9_init__27 : decode cX9_init_ 27 = .ok (.iconst 0, 1) := by decide +kernel
theorem dX9_init__28 : decode cX9_init_ 28 = .ok (.iastore, 1) := by decide +kernel
theorem dX9_init__29 : decode cX9_init_ 29 = .ok (.iinc 1 1, 3) := by decide +kernel
theorem dX9_init__32 : decode cX9_init_ 32 = .ok (.goto (-30), 3) := by decide +kernel
theorem dX9_init__35 : decode cX9_init_ 35 = .ok (.aload_n 0, 1) := by decide +kernel
theorem dX9_init__36 : decode cX9_init_ 36 = .ok (.iconst 0, 1) := by decide +kernel
theorem dX9_init__37 : decode cX9_init_ 37 = .ok (.putfield 50, 3) := by decide +kernel
theorem dX9_init__40 : decode cX9_init_ 40 = .ok (.aload_n 0, 1) := by decide +kernel
theorem dX9_init__41 : decode cX9_init_ 41 = .ok (.iconst 0, 1) := by decide +kernel
theorem dX9_init__42 : decode cX9_init_ 42 = .ok (.putfield 53, 3) := by decide +kernel
theorem dX9_init__45 : decode cX9_init_ 45 = .ok (.aload_n 0, 1) := by decide +kernel
theorem dX9_init__46 : decode cX9_init_ 46 = .ok (.iconst 0, 1) := by decide +kernel
theorem dX9_init__47 : decode cX9_init_ 47 = .ok (.putfield 56, 3) := by decide +kernel
theorem dX9_init__50 : decode cX9_init_ 50 = .ok (.aload_n 0, 1) := by decide +kernel
theorem dX9_init__51 : decode cX9_init_ 51 = .ok (.iconst 0, 1) := by decide +kernel
theorem dX9_init__52 : decode cX9_init_ 52 = .ok (.putfield 59, 3) := by decide +kernel
theorem dX9_init__55 : decode cX9_init_ 55 = .ok (.aload_n 0, 1) := by decide +kernel
theorem dX9_init__56 : decode cX9_init_ 56 = .ok (.iconst (-1), 1) := by decide +kernel
theorem dX9_init__57 : decode cX9_init_ 57 = .ok (.putfield 46, 3) := by decide +kernel
theorem dX9_init__60 : decode cX9_init_ 60 = .ok (.aload_n 0, 1) := by decide +kernel
theorem dX9_init__61 : decode cX9_init_ 61 = .ok (.iconst 0, 1) := by decide +kernel
theorem dX9_init__62 : decode cX9_init_ 62 = .ok (.putfield 62, 3) := by decide +kernel
theorem dX9_init__65 : decode cX9_init_ 65 = .ok (.aload_n 0, 1) := by decide +kernel
theorem dX9_init__66 : decode cX9_init_ 66 = .ok (.iconst 0, 1) := by decide +kernel
theorem dX9_init__67 : decode cX9_init_ 67 = .ok (.putfield 66, 3) := by decide +kernel
theorem dX9_init__70 : decode cX9_init_ 70 = .ok (.return_, 1) := by decide +kernel
theorem dX9_isVariable_0 : decode cX9_isVariable 0 = .ok (.iload_n 0, 1) := by decide +kernel
theorem dX9_isVariable_1 : decode cX9_isVariable 1 = .ok (.ifCond .lt 13, 3) := by decide +kernel
theorem dX9_isVariable_4 : decode cX9_isVariable 4 = .ok (.iload_n 0, 1) := by decide +kernel
theorem dX9_isVariable_5 : decode cX9_isVariable 5 = .ok (.bipush 6, 2) := by decide +kernel
theorem dX9_isVariable_7 : decode cX9_isVariable 7 = .ok (.if_icmp .ge 7, 3) := by decide +kernel
theorem dX9_isVariable_10 : decode cX9_isVariable 10 = .ok (.iconst 1, 1) := by decide +kernel
theorem dX9_isVariable_11 : decode cX9_isVariable 11 = .ok (.goto 4, 3) := by decide +kernel
theorem dX9_isVariable_14 : decode cX9_isVariable 14 = .ok (.iconst 0, 1) := by decide +kernel
theorem dX9_isVariable_15 : decode cX9_isVariable 15 = .ok (.ireturn, 1) := by decide +kernel
theorem dX9_setInit_0 : decode cX9_setInit 0 = .ok (.iload_n 1, 1) := by decide +kernel
theorem dX9_setInit_1 : decode cX9_setInit 1 = .ok (.invokestatic 69, 3) := by decide +kernel
theorem dX9_setInit_4 : decode cX9_setInit 4 = .ok (.ifCond .ne 5, 3) := by decide +kernel
theorem dX9_setInit_7 : decode cX9_setInit 7 = .ok (.iconst (-1), 1) := by decide +kernel
theorem dX9_setInit_8 : decode cX9_setInit 8 = .ok (.ireturn, 1) := by decide +kernel
theorem dX9_setInit_9 : decode cX9_setInit 9 = .ok (.aload_n 0, 1) := by decide +kernel
theorem dX9_setInit_10 : decode cX9_setInit 10 = .ok (.getfield 62, 3) := by decide +kernel
theorem dX9_setInit_13 : decode cX9_setInit 13 = .ok (.ifCond .eq 6, 3) := by decide +kernel
theorem dX9_setInit_16 : decode cX9_setInit 16 = .ok (.bipush (-2), 2) := by decide +kernel
theorem dX9_setInit_18 : decode cX9_setInit 18 = .ok (.ireturn, 1) := by decide +kernel
theorem dX9_setInit_19 : decode cX9_setInit 19 = .ok (.aload_n 0, 1) := by decide +kernel
theorem dX9_setInit_20 : decode cX9_setInit 20 = .ok (.getfield 7, 3) := by decide +kernel
theorem dX9_setInit_23 : decode cX9_setInit 23 = .ok (.iload_n 1, 1) := by decide +kernel
theorem dX9_setInit_24 : decode cX9_setInit 24 = .ok (.iload_n 2, 1) := by decide +kernel
theorem dX9_setInit_25 : decode cX9_setInit 25 = .ok (.iastore, 1) := by decide +kernel
theorem dX9_setInit_26 : decode cX9_setInit 26 = .ok (.iconst 0, 1) := by decide +kernel
theorem dX9_setInit_27 : decode cX9_setInit 27 = .ok (.ireturn, 1) := by decide +kernel
theorem dX9_setSymGroup_0 : decode cX9_setSymGroup 0 = .ok (.iload_n 1, 1) := by decide +kernel
theorem dX9_setSymGroup_1 : decode cX9_setSymGroup 1 = .ok (.invokestatic 69, 3) := by decide +kernel
theorem dX9_setSymGroup_4 : decode cX9_setSymGroup 4 = .ok (.ifCond .eq 12, 3) := by decide +kernel
theorem dX9_setSymGroup_7 : decode cX9_setSymGroup 7 = .ok (.iload_n 2, 1) := by decide +kernel
theorem dX9_setSymGroup_8 : decode cX9_setSymGroup 8 = .ok (.ifCond .lt 8, 3) := by decide +kernel
theorem dX9_setSymGroup_11 : decode cX9_setSymGroup 11 = .ok (.iload_n 2, 1) := by decide +kernel
theorem dX9_setSymGroup_12 : decode cX9_setSymGroup 12 = .ok (.iconst 3, 1) := by decide +kernel
theorem dX9_setSymGroup_13 : decode cX9_setSymGroup 13 = .ok (.if_icmp .le 5, 3) := by decide +kernel
theorem dX9_setSymGroup_16 : decode cX9_setSymGroup 16 = .ok (.iconst (-1), 1) := by decide +kernel
theorem dX9_setSymGroup_17 : decode cX9_setSymGroup 17 = .ok (.ireturn, 1) := by decide +kernel
theorem dX9_setSymGroup_18 : decode cX9_setSymGroup 18 = .ok (.aload_n 0, 1) := by decide +kernel
theorem dX9_setSymGroup_19 : decode cX9_setSymGroup 19 = .ok (.getfield 62, 3) := by decide +kernel
theorem dX9_setSymGroup_22 : decode cX9_setSymGroup 22 = .ok (.ifCond .eq 6, 3) := by decide +kernel
theorem dX9_setSymGroup_25 : decode cX9_setSymGroup 25 = .ok (.bipush (-2), 2) := by decide +kernel
theorem dX9_setSymGroup_27 : decode cX9_setSymGroup 27 = .ok (.ireturn, 1) := by decide +kernel
theorem dX9_setSymGroup_28 : decode cX9_setSymGroup 28 = .ok (.aload_n 0, 1) := by decide +kernel
theorem dX9_setSymGroup_29 : decode cX9_setSymGroup 29 = .ok (.getfield 13, 3) := by decide +kernel
theorem dX9_setSymGroup_32 : decode cX9_setSymGroup 32 = .ok (.iload_n 1, 1) := by decide +kernel
theorem dX9_setSymGroup_33 : decode cX9_setSymGroup 33 = .ok (.iload_n 2, 1) := by decide +kernel
theorem dX9_setSymGroup_34 : decode cX9_setSymGroup 34 = .ok (.iastore, 1) := by decide +kernel
theorem dX9_setSymGroup_35 : decode cX9_setSymGroup 35 = .ok (.iconst 0, 1) := by decide +kernel
theorem dX9_setSymGroup_36 : decode cX9_setSymGroup 36 = .ok (.ireturn, 1) := by decide +kernel
theorem dX9_beginRule_0 : decode cX9_beginRule 0 = .ok (.aload_n 0, 1) := by decide +kernel
theorem dX9_beginRule_1 : decode cX9_beginRule 1 = .ok (.getfield 62, 3) := by decide +kernel
theorem dX9_beginRule_4 : decode cX9_beginRule 4 = .ok (.ifCond .eq 6, 3) := by decide +kernel
theorem dX9_beginRule_7 : decode cX9_beginRule 7 = .ok (.bipush (-2), 2) := by decide +kernel
theorem dX9_beginRule_9 : decode cX9_beginRule 9 = .ok (.ireturn, 1) := by decide +kernel
theorem dX9_beginRule_10 : decode cX9_beginRule 10 = .ok (.aload_n 0, 1) := by decide +kernel
theorem dX9_beginRule_11 : decode cX9_beginRule 11 = .ok (.getfield 50, 3) := by decide +kernel
theorem dX9_beginRule_14 : decode cX9_beginRule 14 = .ok (.bipush 12, 2) := by decide +kernel
theorem dX9_beginRule_16 : decode cX9_beginRule 16 = .ok (.if_icmp .ne 6, 3) := by decide +kernel
theorem dX9_beginRule_19 : decode cX9_beginRule 19 = .ok (.bipush (-3), 2) := by decide +kernel
theorem dX9_beginRule_21 : decode cX9_beginRule 21 = .ok (.ireturn, 1) := by decide +kernel
theorem dX9_beginRule_22 : decode cX9_beginRule 22 = .ok (.aload_n 0, 1) := by decide +kernel
theorem dX9_beginRule_23 : decode cX9_beginRule 23 = .ok (.getfield 22, 3) := by decide +kernel
theorem dX9_beginRule_26 : decode cX9_beginRule 26 = .ok (.aload_n 0, 1) := by decide +kernel
theorem dX9_beginRule_27 : decode cX9_beginRule 27 = .ok (.getfield 50, 3) := by decide +kernel
theorem dX9_beginRule_30 : decode cX9_beginRule 30 = .ok (.iconst 0, 1) := by decide +kernel
theorem dX9_beginRule_31 : decode cX9_beginRule 31 = .ok (.iastore, 1) := by decide +kernel
theorem dX9_beginRule_32 : decode cX9_beginRule 32 = .ok (.aload_n 0, 1) := by decide +kernel
theorem dX9_beginRule_33 : decode cX9_beginRule 33 = .ok (.dup, 1) := by decide +kernel
theorem dX9_beginRule_34 : decode cX9_beginRule 34 = .ok (.getfield 50, 3) := by decide +kernel
theorem dX9_beginRule_37 : decode cX9_beginRule 37 = .ok (.iconst 1, 1) := by decide +kernel
theorem dX9_beginRule_38 : decode cX9_beginRule 38 = .ok (.iadd, 1) := by decide +kernel
theorem dX9_beginRule_39 : decode cX9_beginRule 39 = .ok (.putfield 50, 3) := by decide +kernel
theorem dX9_beginRule_42 : decode cX9_beginRule 42 = .ok (.aload_n 0, 1) := by decide +kernel
theorem dX9_beginRule_43 : decode cX9_beginRule 43 = .ok (.getfield 50, 3) := by decide +kernel
theorem dX9_beginRule_46 : decode cX9_beginRule 46 = .ok (.iconst 1, 1) := by decide +kernel
theorem dX9_beginRule_47 : decode cX9_beginRule 47 = .ok (.isub, 1) := by decide +kernel
theorem dX9_beginRule_48 : decode cX9_beginRule 48 = .ok (.ireturn, 1) := by decide +kernel
theorem dX9_isWord_0 : decode cX9_isWord 0 = .ok (.iload_n 0, 1) := by decide +kernel
theorem dX9_isWord_1 : decode cX9_isWord 1 = .ok (.sipush 255, 3) := by decide +kernel
theorem dX9_isWord_4 : decode cX9_isWord 4 = .ok (.iand, 1) := by decide +kernel
theorem dX9_isWord_5 : decode cX9_isWord 5 = .ok (.istore_n 1, 1) := by decide +kernel
theorem dX9_isWord_6 : decode cX9_isWord 6 = .ok (.iload_n 0, 1) := by decide +kernel
theorem dX9_isWord_7 : decode cX9_isWord 7 = .ok (.bipush 8, 2) := by decide +kernel
theorem dX9_isWord_9 : decode cX9_isWord 9 = .ok (.ishr, 1) := by decide +kernel
theorem dX9_isWord_10 : decode cX9_isWord 10 = .ok (.istore_n 2, 1) := by decide +kernel
theorem dX9_isWord_11 : decode cX9_isWord 11 = .ok (.iload_n 1, 1) := by decide +kernel
theorem dX9_isWord_12 : decode cX9_isWord 12 = .ok (.ifCond .ne 5, 3) := by decide +kernel
theorem dX9_isWord_15 : decode cX9_isWord 15 = .ok (.iconst 1, 1) := by decide +kernel
theorem dX9_isWord_16 : decode cX9_isWord 16 = .ok (.ireturn, 1) := by decide +kernel
theorem dX9_isWord_17 : decode cX9_isWord 17 = .ok (.iload_n 1, 1) := by decide +kernel
theorem dX9_isWord_18 : decode cX9_isWord 18 = .ok (.iconst 1, 1) := by decide +kernel
theorem dX9_isWord_19 : decode cX9_isWord 19 = .ok (.if_icmp .eq 9, 3) := by decide +kernel
theorem dX9_isWord_22 : decode cX9_isWord 22 = .ok (.iload_n 1, 1) := by decide +kernel
theorem dX9_isWord_23 : decode cX9_isWord 23 = .ok (.bipush 11, 2) := by decide +kernel
theorem dX9_isWord_25 : decode cX9_isWord 25 = .ok (.if_icmp .ne 8, 3) := by decide +kernel
theorem dX9_isWord_28 : decode cX9_isWord 28 = .ok (.iload_n 2, 1) := by decide +kernel
theorem dX9_isWord_29 : decode cX9_isWord 29 = .ok (.invokestatic 69, 3) := by decide +kernel
theorem dX9_isWord_32 : decode cX9_isWord 32 = .ok (.ireturn, 1) := by decide +kernel
theorem dX9_isWord_33 : decode cX9_isWord 33 = .ok (.iload_n 1, 1) := by decide +kernel
theorem dX9_isWord_34 : decode cX9_isWord 34 = .ok (.bipush 12, 2) := by decide +kernel
theorem dX9_isWord_36 : decode cX9_isWord 36 = .ok (.if_icmp .gt 11, 3) := by decide +kernel
theorem dX9_isWord_39 : decode cX9_isWord 39 = .ok (.iload_n 2, 1) := by decide +kernel
theorem dX9_isWord_40 : decode cX9_isWord 40 = .ok (.ifCond .ne 7, 3) := by decide +kernel
theorem dX9_isWord_43 : decode cX9_isWord 43 = .ok (.iconst 1, 1) := by decide +kernel
theorem dX9_isWord_44 : decode cX9_isWord 44 = .ok (.goto 4, 3) := by decide +kernel
theorem dX9_isWord_47 : decode cX9_isWord 47 = .ok (.iconst 0, 1) := by decide +kernel
theorem dX9_isWord_48 : decode cX9_isWord 48 = .ok (.ireturn, 1) := by decide +kernel
theorem dX9_feedRule_0 : decode cX9_feedRule 0 = .ok (.aload_n 0, 1) := by decide +kernel
theorem dX9_feedRule_1 : decode cX9_feedRule 1 = .ok (.getfield 62, 3) := by decide +kernel
theorem dX9_feedRule_4 : decode cX9_feedRule 4 = .ok (.ifCond .eq 6, 3) := by decide +kernel
theorem dX9_feedRule_7 : decode cX9_feedRule 7 = .ok (.bipush (-2), 2) := by decide +kernel
theorem dX9_feedRule_9 : decode cX9_feedRule 9 = .ok (.ireturn, 1) := by decide +kernel
theorem dX9_feedRule_10 : decode cX9_feedRule 10 = .ok (.aload_n 0, 1) := by decide +kernel
theorem dX9_feedRule_11 : decode cX9_feedRule 11 = .ok (.getfield 50, 3) := by decide +kernel
theorem dX9_feedRule_14 : decode cX9_feedRule 14 = .ok (.ifCond .ne 6, 3) := by decide +kernel
theorem dX9_feedRule_17 : decode cX9_feedRule 17 = .ok (.bipush (-4), 2) := by decide +kernel
theorem dX9_feedRule_19 : decode cX9_feedRule 19 = .ok (.ireturn, 1) := by decide +kernel
theorem dX9_feedRule_20 : decode cX9_feedRule 20 = .ok (.iload_n 1, 1) := by decide +kernel
theorem dX9_feedRule_21 : decode cX9_feedRule 21 = .ok (.invokestatic 73, 3) := by decide +kernel
theorem dX9_feedRule_24 : decode cX9_feedRule 24 = .ok (.ifCond .ne 5, 3) := by decide +kernel
theorem dX9_feedRule_27 : decode cX9_feedRule 27 = .ok (.iconst (-1), 1) := by decide +kernel
theorem dX9_feedRule_28 : decode cX9_feedRule 28 = .ok (.ireturn, 1) := by decide +kernel
theorem dX9_feedRule_29 : decode cX9_feedRule 29 = .ok (.aload_n 0, 1) := by decide +kernel
theorem dX9_feedRule_30 : decode cX9_feedRule 30 = .ok (.getfield 50, 3) := by decide +kernel
theorem dX9_feedRule_33 : decode cX9_feedRule 33 = .ok (.iconst 1, 1) := by decide +kernel
theorem dX9_feedRule_34 : decode cX9_feedRule 34 = .ok (.isub, 1) := by decide +kernel
theorem dX9_feedRule_35 : decode cX9_feedRule 35 = .ok (.istore_n 2, 1) := by decide +kernel
theorem dX9_feedRule_36 : decode cX9_feedRule 36 = .ok (.aload_n 0, 1) := by decide +kernel
theorem dX9_feedRule_37 : decode cX9_feedRule 37 = .ok (.getfield 22, 3) := by decide +kernel
theorem dX9_feedRule_40 : decode cX9_feedRule 40 = .ok (.iload_n 2, 1) := by decide +kernel
theorem dX9_feedRule_41 : decode cX9_feedRule 41 = .ok (.iaload, 1) := by decide +kernel
theorem dX9_feedRule_42 : decode cX9_feedRule 42 = .ok (.bipush 32, 2) := by decide +kernel
theorem dX9_feedRule_44 : decode cX9_feedRule 44 = .ok (.if_icmp .ne 6, 3) := by decide +kernel
theorem dX9_feedRule_47 : decode cX9_feedRule 47 = .ok (.bipush (-3), 2) := by decide +kernel
theorem dX9_feedRule_49 : decode cX9_feedRule 49 = .ok (.ireturn, 1) := by decide +kernel
theorem dX9_feedRule_50 : decode cX9_feedRule 50 = .ok (.aload_n 0, 1) := by decide +kernel
theorem dX9_feedRule_51 : decode cX9_feedRule 51 = .ok (.getfield 19, 3) := by decide +kernel
theorem dX9_feedRule_54 : decode cX9_feedRule 54 = .ok (.bipush 32, 2) := by decide +kernel
theorem dX9_feedRule_56 : decode cX9_feedRule 56 = .ok (.iload_n 2, 1) := by decide +kernel
theorem dX9_feedRule_57 : decode cX9_feedRule 57 = .ok (.imul, 1) := by decide +kernel
theorem dX9_feedRule_58 : decode cX9_feedRule 58 = .ok (.aload_n 0, 1) := by decide +kernel
theorem dX9_feedRule_59 : decode cX9_feedRule 59 = .ok (.getfield 22, 3) := by decide +kernel
theorem dX9_feedRule_62 : decode cX9_feedRule 62 = .ok (.iload_n 2, 1) := by decide +kernel
theorem dX9_feedRule_63 : decode cX9_feedRule 63 = .ok (.iaload, 1) := by decide +kernel
theorem dX9_feedRule_64 : decode cX9_feedRule 64 = .ok (.iadd, 1) := by decide +kernel
theorem dX9_feedRule_65 : decode cX9_feedRule 65 = .ok (.iload_n 1, 1) := by decide +kernel
theorem dX9_feedRule_66 : decode cX9_feedRule 66 = .ok (.iastore, 1) := by decide +kernel
theorem dX9_feedRule_67 : decode cX9_feedRule 67 = .ok (.aload_n 0, 1) := by decide +kernel
theorem dX9_feedRule_68 : decode cX9_feedRule 68 = .ok (.getfield 22, 3) := by decide +kernel
theorem dX9_feedRule_71 : decode cX9_feedRule 71 = .ok (.iload_n 2, 1) := by decide +kernel
theorem dX9_feedRule_72 : decode cX9_feedRule 72 = .ok (.dup2, 1) := by decide +kernel
theorem dX9_feedRule_73 : decode cX9_feedRule 73 = .ok (.iaload, 1) := by decide +kernel
theorem dX9_feedRule_74 : decode cX9_feedRule 74 = .ok (.iconst 1, 1) := by decide +kernel
theorem dX9_feedRule_75 : decode cX9_feedRule 75 = .ok (.iadd, 1) := by decide +kernel
theorem dX9_feedRule_76 : decode cX9_feedRule 76 = .ok (.iastore, 1) := by decide +kernel
theorem dX9_feedRule_77 : decode cX9_feedRule 77 = .ok (.iconst 0, 1) := by decide +kernel
theorem dX9_feedRule_78 : decode cX9_feedRule 78 = .ok (.ireturn, 1) := by decide +kernel
theorem dX9_feedInvariant_0 : decode cX9_feedInvariant 0 = .ok (.aload_n 0, 1) := by decide +kernel
theorem dX9_feedInvariant_1 : decode cX9_feedInvariant 1 = .ok (.getfield 62, 3) := by decide +kernel
theorem dX9_feedInvariant_4 : decode cX9_feedInvariant 4 = .ok (.ifCond .eq 6, 3) := by decide +kernel
theorem dX9_feedInvariant_7 : decode cX9_feedInvariant 7 = .ok (.bipush (-2), 2) := by decide +kernel
theorem dX9_feedInvariant_9 : decode cX9_feedInvariant 9 = .ok (.ireturn, 1) := by decide +kernel
theorem dX9_feedInvariant_10 : decode cX9_feedInvariant 10 = .ok (.iload_n 1, 1) := by decide +kernel
theorem dX9_feedInvariant_11 : decode cX9_feedInvariant 11 = .ok (.invokestatic 73, 3) := by decide +kernel
theorem dX9_feedInvariant_14 : decode cX9_feedInvariant 14 = .ok (.ifCond .ne 5, 3) := by decide +kernel
theorem dX9_feedInvariant_17 : decode cX9_feedInvariant 17 = .ok (.iconst (-1), 1) := by decide +kernel
theorem dX9_feedInvariant_18 : decode cX9_feedInvariant 18 = .ok (.ireturn, 1) := by decide +kernel
theorem dX9_feedInvariant_19 : decode cX9_feedInvariant 19 = .ok (.aload_n 0, 1) := by decide +kernel
theorem dX9_feedInvariant_20 : decode cX9_feedInvariant 20 = .ok (.getfield 53, 3) := by decide +kernel
theorem dX9_feedInvariant_23 : decode cX9_feedInvariant 23 = .ok (.bipush 32, 2) := by decide +kernel
theorem dX9_feedInvariant_25 : decode cX9_feedInvariant 25 = .ok (.if_icmp .ne 6, 3) := by decide +kernel
theorem dX9_feedInvariant_28 : decode cX9_feedInvariant 28 = .ok (.bipush (-3), 2) := by decide +kernel
theorem dX9_feedInvariant_30 : decode cX9_feedInvariant 30 = .ok (.ireturn, 1) := by decide +kernel
theorem dX9_feedInvariant_31 : decode cX9_feedInvariant 31 = .ok (.aload_n 0, 1) := by decide +kernel
theorem dX9_feedInvariant_32 : decode cX9_feedInvariant 32 = .ok (.getfield 25, 3) := by decide +kernel
theorem dX9_feedInvariant_35 : decode cX9_feedInvariant 35 = .ok (.aload_n 0, 1) := by decide +kernel
theorem dX9_feedInvariant_36 : decode cX9_feedInvariant 36 = .ok (.getfield 53, 3) := by decide +kernel
theorem dX9_feedInvariant_39 : decode cX9_feedInvariant 39 = .ok (.iload_n 1, 1) := by decide +kernel
theorem dX9_feedInvariant_40 : decode cX9_feedInvariant 40 = .ok (.iastore, 1) := by decide +kernel
theorem dX9_feedInvariant_41 : decode cX9_feedInvariant 41 = .ok (.aload_n 0, 1) := by decide +kernel
theorem dX9_feedInvariant_42 : decode cX9_feedInvariant 42 = .ok (.dup, 1) := by decide +kernel
theorem dX9_feedInvariant_43 : decode cX9_feedInvariant 43 = .ok (.getfield 53, 3) := by decide +kernel
theorem dX9_feedInvariant_46 : decode cX9_feedInvariant 46 = .ok (.iconst 1, 1) := by decide +kernel
theorem dX9_feedInvariant_47 : decode cX9_feedInvariant 47 = .ok (.iadd, 1) := by decide +kernel
theorem dX9_feedInvariant_48 : decode cX9_feedInvariant 48 = .ok (.putfield 53, 3) := by decide +kernel
theorem dX9_feedInvariant_51 : decode cX9_feedInvariant 51 = .ok (.iconst 0, 1) := by decide +kernel
theorem dX9_feedInvariant_52 : decode cX9_feedInvariant 52 = .ok (.ireturn, 1) := by decide +kernel
theorem dX9_height_0 : decode cX9_height 0 = .ok (.iload_n 0, 1) := by decide +kernel
theorem dX9_height_1 : decode cX9_height 1 = .ok (.iconst 1, 1) := by decide +kernel
theorem dX9_height_2 : decode cX9_height 2 = .ok (.if_icmp .gt 17, 3) := by decide +kernel
theorem dX9_height_5 : decode cX9_height 5 = .ok (.iload_n 1, 1) := by decide +kernel
theorem dX9_height_6 : decode cX9_height 6 = .ok (.bipush 8, 2) := by decide +kernel
theorem dX9_height_8 : decode cX9_height 8 = .ok (.if_icmp .ge 9, 3) := by decide +kernel
theorem dX9_height_11 : decode cX9_height 11 = .ok (.iload_n 1, 1) := by decide +kernel
theorem dX9_height_12 : decode cX9_height 12 = .ok (.iconst 1, 1) := by decide +kernel
theorem dX9_height_13 : decode cX9_height 13 = .ok (.iadd, 1) := by decide +kernel
theorem dX9_height_14 : decode cX9_height 14 = .ok (.goto 4, 3) := by decide +kernel
theorem dX9_height_17 : decode cX9_height 17 = .ok (.iconst (-1), 1) := by decide +kernel
theorem dX9_height_18 : decode cX9_height 18 = .ok (.ireturn, 1) := by decide +kernel
theorem dX9_height_19 : decode cX9_height 19 = .ok (.iload_n 0, 1) := by decide +kernel
theorem dX9_height_20 : decode cX9_height 20 = .ok (.bipush 8, 2) := by decide +kernel
theorem dX9_height_22 : decode cX9_height 22 = .ok (.if_icmp .gt 16, 3) := by decide +kernel
theorem dX9_height_25 : decode cX9_height 25 = .ok (.iload_n 1, 1) := by decide +kernel
theorem dX9_height_26 : decode cX9_height 26 = .ok (.iconst 2, 1) := by decide +kernel
theorem dX9_height_27 : decode cX9_height 27 = .ok (.if_icmp .lt 9, 3) := by decide +kernel
theorem dX9_height_30 : decode cX9_height 30 = .ok (.iload_n 1, 1) := by decide +kernel
theorem dX9_height_31 : decode cX9_height 31 = .ok (.iconst 1, 1) := by decide +kernel
theorem dX9_height_32 : decode cX9_height 32 = .ok (.isub, 1) := by decide +kernel
theorem dX9_height_33 : decode cX9_height 33 = .ok (.goto 4, 3) := by decide +kernel
theorem dX9_height_36 : decode cX9_height 36 = .ok (.iconst (-1), 1) := by decide +kernel
theorem dX9_height_37 : decode cX9_height 37 = .ok (.ireturn, 1) := by decide +kernel
theorem dX9_height_38 : decode cX9_height 38 = .ok (.iload_n 0, 1) := by decide +kernel
theorem dX9_height_39 : decode cX9_height 39 = .ok (.bipush 9, 2) := by decide +kernel
theorem dX9_height_41 : decode cX9_height 41 = .ok (.if_icmp .ne 12, 3) := by decide +kernel
theorem dX9_height_44 : decode cX9_height 44 = .ok (.iload_n 1, 1) := by decide +kernel
theorem dX9_height_45 : decode cX9_height 45 = .ok (.iconst 1, 1) := by decide +kernel
theorem dX9_height_46 : decode cX9_height 46 = .ok (.if_icmp .lt 7, 3) := by decide +kernel
theorem dX9_height_49 : decode cX9_height 49 = .ok (.iload_n 1, 1) := by decide +kernel
theorem dX9_height_50 : decode cX9_height 50 = .ok (.goto 4, 3) := by decide +kernel
theorem dX9_height_53 : decode cX9_height 53 = .ok (.iconst (-1), 1) := by decide +kernel
theorem dX9_height_54 : decode cX9_height 54 = .ok (.ireturn, 1) := by decide +kernel
theorem dX9_ruleIsRight_0 : decode cX9_ruleIsRight 0 = .ok (.iconst 0, 1) := by decide +kernel
theorem dX9_ruleIsRight_1 : decode cX9_ruleIsRight 1 = .ok (.istore_n 2, 1) := by decide +kernel
theorem dX9_ruleIsRight_2 : decode cX9_ruleIsRight 2 = .ok (.iconst 0, 1) := by decide +kernel
theorem dX9_ruleIsRight_3 : decode cX9_ruleIsRight 3 = .ok (.istore_n 3, 1) := by decide +kernel
theorem dX9_ruleIsRight_4 : decode cX9_ruleIsRight 4 = .ok (.iconst 0, 1) := by decide +kernel
theorem dX9_ruleIsRight_5 : decode cX9_ruleIsRight 5 = .ok (.istore 4, 2) := by decide +kernel
theorem dX9_ruleIsRight_7 : decode cX9_ruleIsRight 7 = .ok (.iload 4, 2) := by decide +kernel
theorem dX9_ruleIsRight_9 : decode cX9_ruleIsRight 9 = .ok (.aload_n 0, 1) := by decide +kernel
theorem dX9_ruleIsRight_10 : decode cX9_ruleIsRight 10 = .ok (.getfield 22, 3) := by decide +kernel
theorem dX9_ruleIsRight_13 : decode cX9_ruleIsRight 13 = .ok (.iload_n 1, 1) := by decide +kernel
theorem dX9_ruleIsRight_14 : decode cX9_ruleIsRight 14 = .ok (.iaload, 1) := by decide +kernel
theorem dX9_ruleIsRight_15 : decode cX9_ruleIsRight 15 = .ok (.if_icmp .ge 90, 3) := by decide +kernel
theorem dX9_ruleIsRight_18 : decode cX9_ruleIsRight 18 = .ok (.aload_n 0, 1) := by decide +kernel
theorem dX9_ruleIsRight_19 : decode cX9_ruleIsRight 19 = .ok (.getfield 19, 3) := by decide +kernel
theorem dX9_ruleIsRight_22 : decode cX9_ruleIsRight 22 = .ok (.bipush 32, 2) := by decide +kernel
theorem dX9_ruleIsRight_24 : decode cX9_ruleIsRight 24 = .ok (.iload_n 1, 1) := by decide +kernel
theorem dX9_ruleIsRight_25 : decode cX9_ruleIsRight 25 = .ok (.imul, 1) := by decide +kernel
theorem dX9_ruleIsRight_26 : decode cX9_ruleIsRight 26 = .ok (.iload 4, 2) := by decide +kernel
theorem dX9_ruleIsRight_28 : decode cX9_ruleIsRight 28 = .ok (.iadd, 1) := by decide +kernel
theorem dX9_ruleIsRight_29 : decode cX9_ruleIsRight 29 = .ok (.iaload, 1) := by decide +kernel
theorem dX9_ruleIsRight_30 : decode cX9_ruleIsRight 30 = .ok (.sipush 255, 3) := by decide +kernel
theorem dX9_ruleIsRight_33 : decode cX9_ruleIsRight 33 = .ok (.iand, 1) := by decide +kernel
theorem dX9_ruleIsRight_34 : decode cX9_ruleIsRight 34 = .ok (.istore 5, 2) := by decide +kernel
theorem dX9_ruleIsRight_36 : decode cX9_ruleIsRight 36 = .ok (.iload 5, 2) := by decide +kernel
theorem dX9_ruleIsRight_38 : decode cX9_ruleIsRight 38 = .ok (.bipush 10, 2) := by decide +kernel
theorem dX9_ruleIsRight_40 : decode cX9_ruleIsRight 40 = .ok (.if_icmp .ne 22, 3) := by decide +kernel
theorem dX9_ruleIsRight_43 : decode cX9_ruleIsRight 43 = .ok (.iload_n 3, 1) := by decide +kernel
theorem dX9_ruleIsRight_44 : decode cX9_ruleIsRight 44 = .ok (.iconst 1, 1) := by decide +kernel
theorem dX9_ruleIsRight_45 : decode cX9_ruleIsRight 45 = .ok (.if_icmp .eq 8, 3) := by decide +kernel
theorem dX9_ruleIsRight_48 : decode cX9_ruleIsRight 48 = .ok (.iload_n 2, 1) := by decide +kernel
theorem dX9_ruleIsRight_49 : decode cX9_ruleIsRight 49 = .ok (.iconst 1, 1) := by decide +kernel
theorem dX9_ruleIsRight_50 : decode cX9_ruleIsRight 50 = .ok (.if_icmp .eq 5, 3) := by decide +kernel
theorem dX9_ruleIsRight_53 : decode cX9_ruleIsRight 53 = .ok (.iconst 0, 1) := by decide +kernel
theorem dX9_ruleIsRight_54 : decode cX9_ruleIsRight 54 = .ok (.ireturn, 1) := by decide +kernel
theorem dX9_ruleIsRight_55 : decode cX9_ruleIsRight 55 = .ok (.iconst 1, 1) := by decide +kernel
theorem dX9_ruleIsRight_56 : decode cX9_ruleIsRight 56 = .ok (.istore_n 3, 1) := by decide +kernel
theorem dX9_ruleIsRight_57 : decode cX9_ruleIsRight 57 = .ok (.iconst 0, 1) := by decide +kernel
theorem dX9_ruleIsRight_58 : decode cX9_ruleIsRight 58 = .ok (.istore_n 2, 1) := by decide +kernel
theorem dX9_ruleIsRight_59 : decode cX9_ruleIsRight 59 = .ok (.goto 40, 3) := by decide +kernel
theorem dX9_ruleIsRight_62 : decode cX9_ruleIsRight 62 = .ok (.iload 5, 2) := by decide +kernel
theorem dX9_ruleIsRight_64 : decode cX9_ruleIsRight 64 = .ok (.bipush 11, 2) := by decide +kernel
theorem dX9_ruleIsRight_66 : decode cX9_ruleIsRight 66 = .ok (.if_icmp .ne 20, 3) := by decide +kernel
theorem dX9_ruleIsRight_69 : decode cX9_ruleIsRight 69 = .ok (.iload_n 3, 1) := by decide +kernel
theorem dX9_ruleIsRight_70 : decode cX9_ruleIsRight 70 = .ok (.ifCond .eq 8, 3) := by decide +kernel
theorem dX9_ruleIsRight_73 : decode cX9_ruleIsRight 73 = .ok (.iload_n 2, 1) := by decide +kernel
theorem dX9_ruleIsRight_74 : decode cX9_ruleIsRight 74 = .ok (.iconst 1, 1) := by decide +kernel
theorem dX9_ruleIsRight_75 : decode cX9_ruleIsRight 75 = .ok (.if_icmp .ge 5, 3) := by decide +kernel
theorem dX9_ruleIsRight_78 : decode cX9_ruleIsRight 78 = .ok (.iconst 0, 1) := by decide +kernel
theorem dX9_ruleIsRight_79 : decode cX9_ruleIsRight 79 = .ok (.ireturn, 1) := by decide +kernel
theorem dX9_ruleIsRight_80 : decode cX9_ruleIsRight 80 = .ok (.iinc 2 (-1), 3) := by decide +kernel
theorem dX9_ruleIsRight_83 : decode cX9_ruleIsRight 83 = .ok (.goto 16, 3) := by decide +kernel
theorem dX9_ruleIsRight_86 : decode cX9_ruleIsRight 86 = .ok (.iload 5, 2) := by decide +kernel
theorem dX9_ruleIsRight_88 : decode cX9_ruleIsRight 88 = .ok (.iload_n 2, 1) := by decide +kernel
theorem dX9_ruleIsRight_89 : decode cX9_ruleIsRight 89 = .ok (.invokestatic 76, 3) := by decide +kernel
theorem dX9_ruleIsRight_92 : decode cX9_ruleIsRight 92 = .ok (.istore_n 2, 1) := by decide +kernel
theorem dX9_ruleIsRight_93 : decode cX9_ruleIsRight 93 = .ok (.iload_n 2, 1) := by decide +kernel
theorem dX9_ruleIsRight_94 : decode cX9_ruleIsRight 94 = .ok (.ifCond .ge 5, 3) := by decide +kernel
theorem dX9_ruleIsRight_97 : decode cX9_ruleIsRight 97 = .ok (.iconst 0, 1) := by decide +kernel
theorem dX9_ruleIsRight_98 : decode cX9_ruleIsRight 98 = .ok (.ireturn, 1) := by decide +kernel
theorem dX9_ruleIsRight_99 : decode cX9_ruleIsRight 99 = .ok (.iinc 4 1, 3) := by decide +kernel
theorem dX9_ruleIsRight_102 : decode cX9_ruleIsRight 102 = .ok (.goto (-95), 3) := by decide +kernel
theorem dX9_ruleIsRight_105 : decode cX9_ruleIsRight 105 = .ok (.iload_n 3, 1) := by decide +kernel
theorem dX9_ruleIsRight_106 : decode cX9_ruleIsRight 106 = .ok (.iconst 1, 1) := by decide +kernel
theorem dX9_ruleIsRight_107 : decode cX9_ruleIsRight 107 = .ok (.if_icmp .ne 11, 3) := by decide +kernel
theorem dX9_ruleIsRight_110 : decode cX9_ruleIsRight 110 = .ok (.iload_n 2, 1) := by decide +kernel
theorem dX9_ruleIsRight_111 : decode cX9_ruleIsRight 111 = .ok (.ifCond .ne 7, 3) := by decide +kernel
theorem dX9_ruleIsRight_114 : decode cX9_ruleIsRight 114 = .ok (.iconst 1, 1) := by decide +kernel
theorem dX9_ruleIsRight_115 : decode cX9_ruleIsRight 115 = .ok (.goto 4, 3) := by decide +kernel
theorem dX9_ruleIsRight_118 : decode cX9_ruleIsRight 118 = .ok (.iconst 0, 1) := by decide +kernel
theorem dX9_ruleIsRight_119 : decode cX9_ruleIsRight 119 = .ok (.ireturn, 1) := by decide +kernel
theorem dX9_invariantIsRight_0 : decode cX9_invariantIsRight 0 = .ok (.iconst 0, 1) := by decide +kernel
theorem dX9_invariantIsRight_1 : decode cX9_invariantIsRight 1 = .ok (.istore_n 1, 1) := by decide +kernel
theorem dX9_invariantIsRight_2 : decode cX9_invariantIsRight 2 = .ok (.iconst 0, 1) := by decide +kernel
theorem dX9_invariantIsRight_3 : decode cX9_invariantIsRight 3 = .ok (.istore_n 2, 1) := by decide +kernel
theorem dX9_invariantIsRight_4 : decode cX9_invariantIsRight 4 = .ok (.iload_n 2, 1) := by decide +kernel
theorem dX9_invariantIsRight_5 : decode cX9_invariantIsRight 5 = .ok (.aload_n 0, 1) := by decide +kernel
theorem dX9_invariantIsRight_6 : decode cX9_invariantIsRight 6 = .ok (.getfield 53, 3) := by decide +kernel
theorem dX9_invariantIsRight_9 : decode cX9_invariantIsRight 9 = .ok (.if_icmp .ge 50, 3) := by decide +kernel
theorem dX9_invariantIsRight_12 : decode cX9_invariantIsRight 12 = .ok (.aload_n 0, 1) := by decide +kernel
theorem dX9_invariantIsRight_13 : decode cX9_invariantIsRight 13 = .ok (.getfield 25, 3) := by decide +kernel
theorem dX9_invariantIsRight_16 : decode cX9_invariantIsRight 16 = .ok (.iload_n 2, 1) := by decide +kernel
theorem dX9_invariantIsRight_17 : decode cX9_invariantIsRight 17 = .ok (.iaload, 1) := by decide +kernel
theorem dX9_invariantIsRight_18 : decode cX9_invariantIsRight 18 = .ok (.sipush 255, 3) := by decide +kernel
theorem dX9_invariantIsRight_21 : decode cX9_invariantIsRight 21 = .ok (.iand, 1) := by decide +kernel
theorem dX9_invariantIsRight_22 : decode cX9_invariantIsRight 22 = .ok (.istore_n 3, 1) := by decide +kernel
theorem dX9_invariantIsRight_23 : decode cX9_invariantIsRight 23 = .ok (.iload_n 3, 1) := by decide +kernel
theorem dX9_invariantIsRight_24 : decode cX9_invariantIsRight 24 = .ok (.bipush 12, 2) := by decide +kernel
theorem dX9_invariantIsRight_26 : decode cX9_invariantIsRight 26 = .ok (.if_icmp .ne 15, 3) := by decide +kernel
theorem dX9_invariantIsRight_29 : decode cX9_invariantIsRight 29 = .ok (.iload_n 1, 1) := by decide +kernel
theorem dX9_invariantIsRight_30 : decode cX9_invariantIsRight 30 = .ok (.iconst 1, 1) := by decide +kernel
theorem dX9_invariantIsRight_31 : decode cX9_invariantIsRight 31 = .ok (.if_icmp .eq 5, 3) := by decide +kernel
theorem dX9_invariantIsRight_34 : decode cX9_invariantIsRight 34 = .ok (.iconst 0, 1) := by decide +kernel
theorem dX9_invariantIsRight_35 : decode cX9_invariantIsRight 35 = .ok (.ireturn, 1) := by decide +kernel
theorem dX9_invariantIsRight_36 : decode cX9_invariantIsRight 36 = .ok (.iconst 0, 1) := by decide +kernel
theorem dX9_invariantIsRight_37 : decode cX9_invariantIsRight 37 = .ok (.istore_n 1, 1) := by decide +kernel
theorem dX9_invariantIsRight_38 : decode cX9_invariantIsRight 38 = .ok (.goto 15, 3) := by decide +kernel
theorem dX9_invariantIsRight_41 : decode cX9_invariantIsRight 41 = .ok (.iload_n 3, 1) := by decide +kernel
theorem dX9_invariantIsRight_42 : decode cX9_invariantIsRight 42 = .ok (.iload_n 1, 1) := by decide +kernel
theorem dX9_invariantIsRight_43 : decode cX9_invariantIsRight 43 = .ok (.invokestatic 76, 3) := by decide +kernel
theorem dX9_invariantIsRight_46 : decode cX9_invariantIsRight 46 = .ok (.istore_n 1, 1) := by decide +kernel
theorem dX9_invariantIsRight_47 : decode cX9_invariantIsRight 47 = .ok (.iload_n 1, 1) := by decide +kernel
theorem dX9_invariantIsRight_48 : decode cX9_invariantIsRight 48 = .ok (.ifCond .ge 5, 3) := by decide +kernel
theorem dX9_invariantIsRight_51 : decode cX9_invariantIsRight 51 = .ok (.iconst 0, 1) := by decide +kernel
theorem dX9_invariantIsRight_52 : decode cX9_invariantIsRight 52 = .ok (.ireturn, 1) := by decide +kernel
theorem dX9_invariantIsRight_53 : decode cX9_invariantIsRight 53 = .ok (.iinc 2 1, 3) := by decide +kernel
theorem dX9_invariantIsRight_56 : decode cX9_invariantIsRight 56 = .ok (.goto (-52), 3) := by decide +kernel
theorem dX9_invariantIsRight_59 : decode cX9_invariantIsRight 59 = .ok (.iload_n 1, 1) := by decide +kernel
theorem dX9_invariantIsRight_60 : decode cX9_invariantIsRight 60 = .ok (.iconst 1, 1) := by decide +kernel
theorem dX9_invariantIsRight_61 : decode cX9_invariantIsRight 61 = .ok (.if_icmp .ne 7, 3) := by decide +kernel
theorem dX9_invariantIsRight_64 : decode cX9_invariantIsRight 64 = .ok (.iconst 1, 1) := by decide +kernel
theorem dX9_invariantIsRight_65 : decode cX9_invariantIsRight 65 = .ok (.goto 4, 3) := by decide +kernel
theorem dX9_invariantIsRight_68 : decode cX9_invariantIsRight 68 = .ok (.iconst 0, 1) := by decide +kernel
theorem dX9_invariantIsRight_69 : decode cX9_invariantIsRight 69 = .ok (.ireturn, 1) := by decide +kernel
theorem dX9_exchanged_0 : decode cX9_exchanged 0 = .ok (.iload_n 0, 1) := by decide +kernel
theorem dX9_exchanged_1 : decode cX9_exchanged 1 = .ok (.sipush 255, 3) := by decide +kernel
theorem dX9_exchanged_4 : decode cX9_exchanged 4 = .ok (.iand, 1) := by decide +kernel
theorem dX9_exchanged_5 : decode cX9_exchanged 5 = .ok (.istore_n 3, 1) := by decide +kernel
theorem dX9_exchanged_6 : decode cX9_exchanged 6 = .ok (.iload_n 3, 1) := by decide +kernel
theorem dX9_exchanged_7 : decode cX9_exchanged 7 = .ok (.iconst 1, 1) := by decide +kernel
theorem dX9_exchanged_8 : decode cX9_exchanged 8 = .ok (.if_icmp .eq 11, 3) := by decide +kernel
theorem dX9_exchanged_11 : decode cX9_exchanged 11 = .ok (.iload_n 3, 1) := by decide +kernel
theorem dX9_exchanged_12 : decode cX9_exchanged 12 = .ok (.bipush 11, 2) := by decide +kernel
theorem dX9_exchanged_14 : decode cX9_exchanged 14 = .ok (.if_icmp .eq 5, 3) := by decide +kernel
theorem dX9_exchanged_17 : decode cX9_exchanged 17 = .ok (.iload_n 0, 1) := by decide +kernel
theorem dX9_exchanged_18 : decode cX9_exchanged 18 = .ok (.ireturn, 1) := by decide +kernel
theorem dX9_exchanged_19 : decode cX9_exchanged 19 = .ok (.iload_n 0, 1) := by decide +kernel
theorem dX9_exchanged_20 : decode cX9_exchanged 20 = .ok (.bipush 8, 2) := by decide +kernel
theorem dX9_exchanged_22 : decode cX9_exchanged 22 = .ok (.ishr, 1) := by decide +kernel
theorem dX9_exchanged_23 : decode cX9_exchanged 23 = .ok (.istore 4, 2) := by decide +kernel
theorem dX9_exchanged_25 : decode cX9_exchanged 25 = .ok (.iload 4, 2) := by decide +kernel
theorem dX9_exchanged_27 : decode cX9_exchanged 27 = .ok (.iload_n 1, 1) := by decide +kernel
theorem dX9_exchanged_28 : decode cX9_exchanged 28 = .ok (.if_icmp .ne 12, 3) := by decide +kernel
theorem dX9_exchanged_31 : decode cX9_exchanged 31 = .ok (.iload_n 2, 1) := by decide +kernel
theorem dX9_exchanged_32 : decode cX9_exchanged 32 = .ok (.bipush 8, 2) := by decide +kernel
theorem dX9_exchanged_34 : decode cX9_exchanged 34 = .ok (.ishl, 1) := by decide +kernel
theorem dX9_exchanged_35 : decode cX9_exchanged 35 = .ok (.iload_n 3, 1) := by decide +kernel
theorem dX9_exchanged_36 : decode cX9_exchanged 36 = .ok (.ior, 1) := by decide +kernel
theorem dX9_exchanged_37 : decode cX9_exchanged 37 = .ok (.goto 19, 3) := by decide +kernel
theorem dX9_exchanged_40 : decode cX9_exchanged 40 = .ok (.iload 4, 2) := by decide +kernel
theorem dX9_exchanged_42 : decode cX9_exchanged 42 = .ok (.iload_n 2, 1) := by decide +kernel
theorem dX9_exchanged_43 : decode cX9_exchanged 43 = .ok (.if_icmp .ne 12, 3) := by decide +kernel
theorem dX9_exchanged_46 : decode cX9_exchanged 46 = .ok (.iload_n 1, 1) := by decide +kernel
theorem dX9_exchanged_47 : decode cX9_exchanged 47 = .ok (.bipush 8, 2) := by decide +kernel
theorem dX9_exchanged_49 : decode cX9_exchanged 49 = .ok (.ishl, 1) := by decide +kernel
theorem dX9_exchanged_50 : decode cX9_exchanged 50 = .ok (.iload_n 3, 1) := by decide +kernel
theorem dX9_exchanged_51 : decode cX9_exchanged 51 = .ok (.ior, 1) := by decide +kernel
theorem dX9_exchanged_52 : decode cX9_exchanged 52 = .ok (.goto 4, 3) := by decide +kernel
theorem dX9_exchanged_55 : decode cX9_exchanged 55 = .ok (.iload_n 0, 1) := by decide +kernel
theorem dX9_exchanged_56 : decode cX9_exchanged 56 = .ok (.ireturn, 1) := by decide +kernel
theorem dX9_becomesRule_0 : decode cX9_becomesRule 0 = .ok (.aload_n 0, 1) := by decide +kernel
theorem dX9_becomesRule_1 : decode cX9_becomesRule 1 = .ok (.getfield 22, 3) := by decide +kernel
theorem dX9_becomesRule_4 : decode cX9_becomesRule 4 = .ok (.iload_n 1, 1) := by decide +kernel
theorem dX9_becomesRule_5 : decode cX9_becomesRule 5 = .ok (.iaload, 1) := by decide +kernel
theorem dX9_becomesRule_6 : decode cX9_becomesRule 6 = .ok (.aload_n 0, 1) := by decide +kernel
theorem dX9_becomesRule_7 : decode cX9_becomesRule 7 = .ok (.getfield 22, 3) := by decide +kernel
theorem dX9_becomesRule_10 : decode cX9_becomesRule 10 = .ok (.iload_n 2, 1) := by decide +kernel
theorem dX9_becomesRule_11 : decode cX9_becomesRule 11 = .ok (.iaload, 1) := by decide +kernel
theorem dX9_becomesRule_12 : decode cX9_becomesRule 12 = .ok (.if_icmp .eq 5, 3) := by decide +kernel
theorem dX9_becomesRule_15 : decode cX9_becomesRule 15 = .ok (.iconst 0, 1) := by decide +kernel
theorem dX9_becomesRule_16 : decode cX9_becomesRule 16 = .ok (.ireturn, 1) := by decide +kernel
theorem dX9_becomesRule_17 : decode cX9_becomesRule 17 = .ok (.iconst 0, 1) := by decide +kernel
theorem dX9_becomesRule_18 : decode cX9_becomesRule 18 = .ok (.istore 5, 2) := by decide +kernel
theorem dX9_becomesRule_20 : decode cX9_becomesRule 20 = .ok (.iload 5, 2) := by decide +kernel
theorem dX9_becomesRule_22 : decode cX9_becomesRule 22 = .ok (.aload_n 0, 1) := by decide +kernel
theorem dX9_becomesRule_23 : decode cX9_becomesRule 23 = .ok (.getfield 22, 3) := by decide +kernel
theorem dX9_becomesRule_26 : decode cX9_becomesRule 26 = .ok (.iload_n 1, 1) := by decide +kernel
theorem dX9_becomesRule_27 : decode cX9_becomesRule 27 = .ok (.iaload, 1) := by decide +kernel
theorem dX9_becomesRule_28 : decode cX9_becomesRule 28 = .ok (.if_icmp .ge 44, 3) := by decide +kernel
theorem dX9_becomesRule_31 : decode cX9_becomesRule 31 = .ok (.aload_n 0, 1) := by decide +kernel
theorem dX9_becomesRule_32 : decode cX9_becomesRule 32 = .ok (.getfield 19, 3) := by decide +kernel
theorem dX9_becomesRule_35 : decode cX9_becomesRule 35 = .ok (.bipush 32, 2) := by decide +kernel
theorem dX9_becomesRule_37 : decode cX9_becomesRule 37 = .ok (.iload_n 1, 1) := by decide +kernel
theorem dX9_becomesRule_38 : decode cX9_becomesRule 38 = .ok (.imul, 1) := by decide +kernel
theorem dX9_becomesRule_39 : decode cX9_becomesRule 39 = .ok (.iload 5, 2) := by decide +kernel
theorem dX9_becomesRule_41 : decode cX9_becomesRule 41 = .ok (.iadd, 1) := by decide +kernel
theorem dX9_becomesRule_42 : decode cX9_becomesRule 42 = .ok (.iaload, 1) := by decide +kernel
theorem dX9_becomesRule_43 : decode cX9_becomesRule 43 = .ok (.iload_n 3, 1) := by decide +kernel
theorem dX9_becomesRule_44 : decode cX9_becomesRule 44 = .ok (.iload 4, 2) := by decide +kernel
theorem dX9_becomesRule_46 : decode cX9_becomesRule 46 = .ok (.invokestatic 80, 3) := by decide +kernel
theorem dX9_becomesRule_49 : decode cX9_becomesRule 49 = .ok (.aload_n 0, 1) := by decide +kernel
theorem dX9_becomesRule_50 : decode cX9_becomesRule 50 = .ok (.getfield 19, 3) := by decide +kernel
theorem dX9_becomesRule_53 : decode cX9_becomesRule 53 = .ok (.bipush 32, 2) := by decide +kernel
theorem dX9_becomesRule_55 : decode cX9_becomesRule 55 = .ok (.iload_n 2, 1) := by decide +kernel
theorem dX9_becomesRule_56 : decode cX9_becomesRule 56 = .ok (.imul, 1) := by decide +kernel
theorem dX9_becomesRule_57 : decode cX9_becomesRule 57 = .ok (.iload 5, 2) := by decide +kernel
theorem dX9_becomesRule_59 : decode cX9_becomesRule 59 = .ok (.iadd, 1) := by decide +kernel
theorem dX9_becomesRule_60 : decode cX9_becomesRule 60 = .ok (.iaload, 1) := by decide +kernel
theorem dX9_becomesRule_61 : decode cX9_becomesRule 61 = .ok (.if_icmp .eq 5, 3) := by decide +kernel
theorem dX9_becomesRule_64 : decode cX9_becomesRule 64 = .ok (.iconst 0, 1) := by decide +kernel
theorem dX9_becomesRule_65 : decode cX9_becomesRule 65 = .ok (.ireturn, 1) := by decide +kernel
theorem dX9_becomesRule_66 : decode cX9_becomesRule 66 = .ok (.iinc 5 1, 3) := by decide +kernel
theorem dX9_becomesRule_69 : decode cX9_becomesRule 69 = .ok (.goto (-49), 3) := by decide +kernel
theorem dX9_becomesRule_72 : decode cX9_becomesRule 72 = .ok (.iconst 1, 1) := by decide +kernel
theorem dX9_becomesRule_73 : decode cX9_becomesRule 73 = .ok (.ireturn, 1) := by decide +kernel
theorem dX9_isRuleAgain_0 : decode cX9_isRuleAgain 0 = .ok (.iconst 0, 1) := by decide +kernel
theorem dX9_isRuleAgain_1 : decode cX9_isRuleAgain 1 = .ok (.istore 4, 2) := by decide +kernel
theorem dX9_isRuleAgain_3 : decode cX9_isRuleAgain 3 = .ok (.iload 4, 2) := by decide +kernel
theorem dX9_isRuleAgain_5 : decode cX9_isRuleAgain 5 = .ok (.aload_n 0, 1) := by decide +kernel
theorem dX9_isRuleAgain_6 : decode cX9_isRuleAgain 6 = .ok (.getfield 50, 3) := by decide +kernel
theorem dX9_isRuleAgain_9 : decode cX9_isRuleAgain 9 = .ok (.if_icmp .ge 23, 3) := by decide +kernel
theorem dX9_isRuleAgain_12 : decode cX9_isRuleAgain 12 = .ok (.aload_n 0, 1) := by decide +kernel
theorem dX9_isRuleAgain_13 : decode cX9_isRuleAgain 13 = .ok (.iload_n 1, 1) := by decide +kernel
theorem dX9_isRuleAgain_14 : decode cX9_isRuleAgain 14 = .ok (.iload 4, 2) := by decide +kernel
theorem dX9_isRuleAgain_16 : decode cX9_isRuleAgain 16 = .ok (.iload_n 2, 1) := by decide +kernel
theorem dX9_isRuleAgain_17 : decode cX9_isRuleAgain 17 = .ok (.iload_n 3, 1) := by decide +kernel
theorem dX9_isRuleAgain_18 : decode cX9_isRuleAgain 18 = .ok (.invokevirtual 84, 3) := by decide +kernel
theorem dX9_isRuleAgain_21 : decode cX9_isRuleAgain 21 = .ok (.ifCond .eq 5, 3) := by decide +kernel
theorem dX9_isRuleAgain_24 : decode cX9_isRuleAgain 24 = .ok (.iconst 1, 1) := by decide +kernel
theorem dX9_isRuleAgain_25 : decode cX9_isRuleAgain 25 = .ok (.ireturn, 1) := by decide +kernel
theorem dX9_isRuleAgain_26 : decode cX9_isRuleAgain 26 = .ok (.iinc 4 1, 3) := by decide +kernel
theorem dX9_isRuleAgain_29 : decode cX9_isRuleAgain 29 = .ok (.goto (-26), 3) := by decide +kernel
theorem dX9_isRuleAgain_32 : decode cX9_isRuleAgain 32 = .ok (.iconst 0, 1) := by decide +kernel
theorem dX9_isRuleAgain_33 : decode cX9_isRuleAgain 33 = .ok (.ireturn, 1) := by decide +kernel
theorem dX9_end_0 : decode cX9_end 0 = .ok (.iload_n 1, 1) := by decide +kernel
theorem dX9_end_1 : decode cX9_end 1 = .ok (.istore_n 2, 1) := by decide +kernel
theorem dX9_end_2 : decode cX9_end 2 = .ok (.iload_n 2, 1) := by decide +kernel
theorem dX9_end_3 : decode cX9_end 3 = .ok (.aload_n 0, 1) := by decide +kernel
theorem dX9_end_4 : decode cX9_end 4 = .ok (.getfield 53, 3) := by decide +kernel
theorem dX9_end_7 : decode cX9_end 7 = .ok (.if_icmp .ge 26, 3) := by decide +kernel
theorem dX9_end_10 : decode cX9_end 10 = .ok (.aload_n 0, 1) := by decide +kernel
theorem dX9_end_11 : decode cX9_end 11 = .ok (.getfield 25, 3) := by decide +kernel
theorem dX9_end_14 : decode cX9_end 14 = .ok (.iload_n 2, 1) := by decide +kernel
theorem dX9_end_15 : decode cX9_end 15 = .ok (.iaload, 1) := by decide +kernel
theorem dX9_end_16 : decode cX9_end 16 = .ok (.sipush 255, 3) := by decide +kernel
theorem dX9_end_19 : decode cX9_end 19 = .ok (.iand, 1) := by decide +kernel
theorem dX9_end_20 : decode cX9_end 20 = .ok (.bipush 12, 2) := by decide +kernel
theorem dX9_end_22 : decode cX9_end 22 = .ok (.if_icmp .ne 5, 3) := by decide +kernel
theorem dX9_end_25 : decode cX9_end 25 = .ok (.iload_n 2, 1) := by decide +kernel
theorem dX9_end_26 : decode cX9_end 26 = .ok (.ireturn, 1) := by decide +kernel
theorem dX9_end_27 : decode cX9_end 27 = .ok (.iinc 2 1, 3) := by decide +kernel
theorem dX9_end_30 : decode cX9_end 30 = .ok (.goto (-28), 3) := by decide +kernel
theorem dX9_end_33 : decode cX9_end 33 = .ok (.aload_n 0, 1) := by decide +kernel
theorem dX9_end_34 : decode cX9_end 34 = .ok (.getfield 53, 3) := by decide +kernel
theorem dX9_end_37 : decode cX9_end 37 = .ok (.ireturn, 1) := by decide +kernel
theorem dX9_begins_0 : decode cX9_begins 0 = .ok (.iload_n 1, 1) := by decide +kernel
theorem dX9_begins_1 : decode cX9_begins 1 = .ok (.ifCond .eq 20, 3) := by decide +kernel
theorem dX9_begins_4 : decode cX9_begins 4 = .ok (.aload_n 0, 1) := by decide +kernel
theorem dX9_begins_5 : decode cX9_begins 5 = .ok (.getfield 25, 3) := by decide +kernel
theorem dX9_begins_8 : decode cX9_begins 8 = .ok (.iload_n 1, 1) := by decide +kernel
theorem dX9_begins_9 : decode cX9_begins 9 = .ok (.iconst 1, 1) := by decide +kernel
theorem dX9_begins_10 : decode cX9_begins 10 = .ok (.isub, 1) := by decide +kernel
theorem dX9_begins_11 : decode cX9_begins 11 = .ok (.iaload, 1) := by decide +kernel
theorem dX9_begins_12 : decode cX9_begins 12 = .ok (.sipush 255, 3) := by decide +kernel
theorem dX9_begins_15 : decode cX9_begins 15 = .ok (.iand, 1) := by decide +kernel
theorem dX9_begins_16 : decode cX9_begins 16 = .ok (.bipush 12, 2) := by decide +kernel
theorem dX9_begins_18 : decode cX9_begins 18 = .ok (.if_icmp .ne 7, 3) := by decide +kernel
theorem dX9_begins_21 : decode cX9_begins 21 = .ok (.iconst 1, 1) := by decide +kernel
theorem dX9_begins_22 : decode cX9_begins 22 = .ok (.goto 4, 3) := by decide +kernel
theorem dX9_begins_25 : decode cX9_begins 25 = .ok (.iconst 0, 1) := by decide +kernel
theorem dX9_begins_26 : decode cX9_begins 26 = .ok (.ireturn, 1) := by decide +kernel
theorem dX9_becomesPart_0 : decode cX9_becomesPart 0 = .ok (.aload_n 0, 1) := by decide +kernel
theorem dX9_becomesPart_1 : decode cX9_becomesPart 1 = .ok (.iload_n 1, 1) := by decide +kernel
theorem dX9_becomesPart_2 : decode cX9_becomesPart 2 = .ok (.invokevirtual 88, 3) := by decide +kernel
theorem dX9_becomesPart_5 : decode cX9_becomesPart 5 = .ok (.iload_n 1, 1) := by decide +kernel
theorem dX9_becomesPart_6 : decode cX9_becomesPart 6 = .ok (.isub, 1) := by decide +kernel
theorem dX9_becomesPart_7 : decode cX9_becomesPart 7 = .ok (.istore 5, 2) := by decide +kernel
theorem dX9_becomesPart_9 : decode cX9_becomesPart 9 = .ok (.aload_n 0, 1) := by decide +kernel
theorem dX9_becomesPart_10 : decode cX9_becomesPart 10 = .ok (.iload_n 2, 1) := by decide +kernel
theorem dX9_becomesPart_11 : decode cX9_becomesPart 11 = .ok (.invokevirtual 88, 3) := by decide +kernel
theorem dX9_becomesPart_14 : decode cX9_becomesPart 14 = .ok (.iload_n 2, 1) := by decide +kernel
theorem dX9_becomesPart_15 : decode cX9_becomesPart 15 = .ok (.isub, 1) := by decide +kernel
theorem dX9_becomesPart_16 : decode cX9_becomesPart 16 = .ok (.iload 5, 2) := by decide +kernel
theorem dX9_becomesPart_18 : decode cX9_becomesPart 18 = .ok (.if_icmp .eq 5, 3) := by decide +kernel
theorem dX9_becomesPart_21 : decode cX9_becomesPart 21 = .ok (.iconst 0, 1) := by decide +kernel
theorem dX9_becomesPart_22 : decode cX9_becomesPart 22 = .ok (.ireturn, 1) := by decide +kernel
theorem dX9_becomesPart_23 : decode cX9_becomesPart 23 = .ok (.iconst 0, 1) := by decide +kernel
theorem dX9_becomesPart_24 : decode cX9_becomesPart 24 = .ok (.istore 6, 2) := by decide +kernel
theorem dX9_becomesPart_26 : decode cX9_becomesPart 26 = .ok (.iload 6, 2) := by decide +kernel
theorem dX9_becomesPart_28 : decode cX9_becomesPart 28 = .ok (.iload 5, 2) := by decide +kernel
theorem dX9_becomesPart_30 : decode cX9_becomesPart 30 = .ok (.if_icmp .ge 38, 3) := by decide +kernel
theorem dX9_becomesPart_33 : decode cX9_becomesPart 33 = .ok (.aload_n 0, 1) := by decide +kernel
theorem dX9_becomesPart_34 : decode cX9_becomesPart 34 = .ok (.getfield 25, 3) := by decide +kernel
theorem dX9_becomesPart_37 : decode cX9_becomesPart 37 = .ok (.iload_n 1, 1) := by decide +kernel
theorem dX9_becomesPart_38 : decode cX9_becomesPart 38 = .ok (.iload 6, 2) := by decide +kernel
theorem dX9_becomesPart_40 : decode cX9_becomesPart 40 = .ok (.iadd, 1) := by decide +kernel
theorem dX9_becomesPart_41 : decode cX9_becomesPart 41 = .ok (.iaload, 1) := by decide +kernel
theorem dX9_becomesPart_42 : decode cX9_becomesPart 42 = .ok (.iload_n 3, 1) := by decide +kernel
theorem dX9_becomesPart_43 : decode cX9_becomesPart 43 = .ok (.iload 4, 2) := by decide +kernel
theorem dX9_becomesPart_45 : decode cX9_becomesPart 45 = .ok (.invokestatic 80, 3) := by decide +kernel
theorem dX9_becomesPart_48 : decode cX9_becomesPart 48 = .ok (.aload_n 0, 1) := by decide +kernel
theorem dX9_becomesPart_49 : decode cX9_becomesPart 49 = .ok (.getfield 25, 3) := by decide +kernel
theorem dX9_becomesPart_52 : decode cX9_becomesPart 52 = .ok (.iload_n 2, 1) := by decide +kernel
theorem dX9_becomesPart_53 : decode cX9_becomesPart 53 = .ok (.iload 6, 2) := by decide +kernel
theorem dX9_becomesPart_55 : decode cX9_becomesPart 55 = .ok (.iadd, 1) := by decide +kernel
theorem dX9_becomesPart_56 : decode cX9_becomesPart 56 = .ok (.iaload, 1) := by decide +kernel
theorem dX9_becomesPart_57 : decode cX9_becomesPart 57 = .ok (.if_icmp .eq 5, 3) := by decide +kernel
theorem dX9_becomesPart_60 : decode cX9_becomesPart 60 = .ok (.iconst 0, 1) := by decide +kernel
theorem dX9_becomesPart_61 : decode cX9_becomesPart 61 = .ok (.ireturn, 1) := by decide +kernel
theorem dX9_becomesPart_62 : decode cX9_becomesPart 62 = .ok (.iinc 6 1, 3) := by decide +kernel
theorem dX9_becomesPart_65 : decode cX9_becomesPart 65 = .ok (.goto (-39), 3) := by decide +kernel
theorem dX9_becomesPart_68 : decode cX9_becomesPart 68 = .ok (.iconst 1, 1) := by decide +kernel
theorem dX9_becomesPart_69 : decode cX9_becomesPart 69 = .ok (.ireturn, 1) := by decide +kernel
theorem dX9_isPartAgain_0 : decode cX9_isPartAgain 0 = .ok (.iconst 0, 1) := by decide +kernel
theorem dX9_isPartAgain_1 : decode cX9_isPartAgain 1 = .ok (.istore 4, 2) := by decide +kernel
theorem dX9_isPartAgain_3 : decode cX9_isPartAgain 3 = .ok (.iload 4, 2) := by decide +kernel
theorem dX9_isPartAgain_5 : decode cX9_isPartAgain 5 = .ok (.aload_n 0, 1) := by decide +kernel
theorem dX9_isPartAgain_6 : decode cX9_isPartAgain 6 = .ok (.getfield 53, 3) := by decide +kernel
theorem dX9_isPartAgain_9 : decode cX9_isPartAgain 9 = .ok (.if_icmp .ge 32, 3) := by decide +kernel
theorem dX9_isPartAgain_12 : decode cX9_isPartAgain 12 = .ok (.aload_n 0, 1) := by decide +kernel
theorem dX9_isPartAgain_13 : decode cX9_isPartAgain 13 = .ok (.iload 4, 2) := by decide +kernel
theorem dX9_isPartAgain_15 : decode cX9_isPartAgain 15 = .ok (.invokevirtual 92, 3) := by decide +kernel
theorem dX9_isPartAgain_18 : decode cX9_isPartAgain 18 = .ok (.ifCond .eq 17, 3) := by decide +kernel
theorem dX9_isPartAgain_21 : decode cX9_isPartAgain 21 = .ok (.aload_n 0, 1) := by decide +kernel
theorem dX9_isPartAgain_22 : decode cX9_isPartAgain 22 = .ok (.iload_n 1, 1) := by decide +kernel
theorem dX9_isPartAgain_23 : decode cX9_isPartAgain 23 = .ok (.iload 4, 2) := by decide +kernel
theorem dX9_isPartAgain_25 : decode cX9_isPartAgain 25 = .ok (.iload_n 2, 1) := by decide +kernel
theorem dX9_isPartAgain_26 : decode cX9_isPartAgain 26 = .ok (.iload_n 3, 1) := by decide +kernel
theorem dX9_isPartAgain_27 : decode cX9_isPartAgain 27 = .ok (.invokevirtual 95, 3) := by decide +kernel
theorem dX9_isPartAgain_30 : decode cX9_isPartAgain 30 = .ok (.ifCond .eq 5, 3) := by decide +kernel
theorem dX9_isPartAgain_33 : decode cX9_isPartAgain 33 = .ok (.iconst 1, 1) := by decide +kernel
theorem dX9_isPartAgain_34 : decode cX9_isPartAgain 34 = .ok (.ireturn, 1) := by decide +kernel
theorem dX9_isPartAgain_35 : decode cX9_isPartAgain 35 = .ok (.iinc 4 1, 3) := by decide +kernel
theorem dX9_isPartAgain_38 : decode cX9_isPartAgain 38 = .ok (.goto (-35), 3) := by decide +kernel
theorem dX9_isPartAgain_41 : decode cX9_isPartAgain 41 = .ok (.iconst 0, 1) := by decide +kernel
theorem dX9_isPartAgain_42 : decode cX9_isPartAgain 42 = .ok (.ireturn, 1) := by decide +kernel
theorem dX9_mayExchange_0 : decode cX9_mayExchange 0 = .ok (.iconst 0, 1) := by decide +kernel
theorem dX9_mayExchange_1 : decode cX9_mayExchange 1 = .ok (.istore_n 3, 1) := by decide +kernel
theorem dX9_mayExchange_2 : decode cX9_mayExchange 2 = .ok (.iload_n 3, 1) := by decide +kernel
theorem dX9_mayExchange_3 : decode cX9_mayExchange 3 = .ok (.aload_n 0, 1) := by decide +kernel
theorem dX9_mayExchange_4 : decode cX9_mayExchange 4 = .ok (.getfield 50, 3) := by decide +kernel
theorem dX9_mayExchange_7 : decode cX9_mayExchange 7 = .ok (.if_icmp .ge 21, 3) := by decide +kernel
theorem dX9_mayExchange_10 : decode cX9_mayExchange 10 = .ok (.aload_n 0, 1) := by decide +kernel
theorem dX9_mayExchange_11 : decode cX9_mayExchange 11 = .ok (.iload_n 3, 1) := by decide +kernel
theorem dX9_mayExchange_12 : decode cX9_mayExchange 12 = .ok (.iload_n 1, 1) := by decide +kernel
theorem dX9_mayExchange_13 : decode cX9_mayExchange 13 = .ok (.iload_n 2, 1) := by decide +kernel
theorem dX9_mayExchange_14 : decode cX9_mayExchange 14 = .ok (.invokevirtual 98, 3) := by decide +kernel
theorem dX9_mayExchange_17 : decode cX9_mayExchange 17 = .ok (.ifCond .ne 5, 3) := by decide +kernel
theorem dX9_mayExchange_20 : decode cX9_mayExchange 20 = .ok (.iconst 0, 1) := by decide +kernel
theorem dX9_mayExchange_21 : decode cX9_mayExchange 21 = .ok (.ireturn, 1) := by decide +kernel
theorem dX9_mayExchange_22 : decode cX9_mayExchange 22 = .ok (.iinc 3 1, 3) := by decide +kernel
theorem dX9_mayExchange_25 : decode cX9_mayExchange 25 = .ok (.goto (-23), 3) := by decide +kernel
theorem dX9_mayExchange_28 : decode cX9_mayExchange 28 = .ok (.iconst 0, 1) := by decide +kernel
theorem dX9_mayExchange_29 : decode cX9_mayExchange 29 = .ok (.istore_n 3, 1) := by decide +kernel
theorem dX9_mayExchange_30 : decode cX9_mayExchange 30 = .ok (.iload_n 3, 1) := by decide +kernel
theorem dX9_mayExchange_31 : decode cX9_mayExchange 31 = .ok (.aload_n 0, 1) := by decide +kernel
theorem dX9_mayExchange_32 : decode cX9_mayExchange 32 = .ok (.getfield 53, 3) := by decide +kernel
theorem dX9_mayExchange_35 : decode cX9_mayExchange 35 = .ok (.if_icmp .ge 29, 3) := by decide +kernel
theorem dX9_mayExchange_38 : decode cX9_mayExchange 38 = .ok (.aload_n 0, 1) := by decide +kernel
theorem dX9_mayExchange_39 : decode cX9_mayExchange 39 = .ok (.iload_n 3, 1) := by decide +kernel
theorem dX9_mayExchange_40 : decode cX9_mayExchange 40 = .ok (.invokevirtual 92, 3) := by decide +kernel
theorem dX9_mayExchange_43 : decode cX9_mayExchange 43 = .ok (.ifCond .eq 15, 3) := by decide +kernel
theorem dX9_mayExchange_46 : decode cX9_mayExchange 46 = .ok (.aload_n 0, 1) := by decide +kernel
theorem dX9_mayExchange_47 : decode cX9_mayExchange 47 = .ok (.iload_n 3, 1) := by decide +kernel
theorem dX9_mayExchange_48 : decode cX9_mayExchange 48 = .ok (.iload_n 1, 1) := by decide +kernel
theorem dX9_mayExchange_49 : decode cX9_mayExchange 49 = .ok (.iload_n 2, 1) := by decide +kernel
theorem dX9_mayExchange_50 : decode cX9_mayExchange 50 = .ok (.invokevirtual 102, 3) := by decide +kernel
theorem dX9_mayExchange_53 : decode cX9_mayExchange 53 = .ok (.ifCond .ne 5, 3) := by decide +kernel
theorem dX9_mayExchange_56 : decode cX9_mayExchange 56 = .ok (.iconst 0, 1) := by decide +kernel
theorem dX9_mayExchange_57 : decode cX9_mayExchange 57 = .ok (.ireturn, 1) := by decide +kernel
theorem dX9_mayExchange_58 : decode cX9_mayExchange 58 = .ok (.iinc 3 1, 3) := by decide +kernel
theorem dX9_mayExchange_61 : decode cX9_mayExchange 61 = .ok (.goto (-31), 3) := by decide +kernel
theorem dX9_mayExchange_64 : decode cX9_mayExchange 64 = .ok (.iconst 1, 1) := by decide +kernel
theorem dX9_mayExchange_65 : decode cX9_mayExchange 65 = .ok (.ireturn, 1) := by decide +kernel
theorem dX9_blocksAreRight_0 : decode cX9_blocksAreRight 0 = .ok (.iconst 0, 1) := by decide +kernel
theorem dX9_blocksAreRight_1 : decode cX9_blocksAreRight 1 = .ok (.istore_n 1, 1) := by decide +kernel
theorem dX9_blocksAreRight_2 : decode cX9_blocksAreRight 2 = .ok (.iload_n 1, 1) := by decide +kernel
theorem dX9_blocksAreRight_3 : decode cX9_blocksAreRight 3 = .ok (.bipush 6, 2) := by decide +kernel
theorem dX9_blocksAreRight_5 : decode cX9_blocksAreRight 5 = .ok (.if_icmp .ge 60, 3) := by decide +kernel
theorem dX9_blocksAreRight_8 : decode cX9_blocksAreRight 8 = .ok (.iload_n 1, 1) := by decide +kernel
theorem dX9_blocksAreRight_9 : decode cX9_blocksAreRight 9 = .ok (.iconst 1, 1) := by decide +kernel
theorem dX9_blocksAreRight_10 : decode cX9_blocksAreRight 10 = .ok (.iadd, 1) := by decide +kernel
theorem dX9_blocksAreRight_11 : decode cX9_blocksAreRight 11 = .ok (.istore_n 2, 1) := by decide +kernel
theorem dX9_blocksAreRight_12 : decode cX9_blocksAreRight 12 = .ok (.iload_n 2, 1) := by decide +kernel
theorem dX9_blocksAreRight_13 : decode cX9_blocksAreRight 13 = .ok (.bipush 6, 2) := by decide +kernel
theorem dX9_blocksAreRight_15 : decode cX9_blocksAreRight 15 = .ok (.if_icmp .ge 44, 3) := by decide +kernel
theorem dX9_blocksAreRight_18 : decode cX9_blocksAreRight 18 = .ok (.aload_n 0, 1) := by decide +kernel
theorem dX9_blocksAreRight_19 : decode cX9_blocksAreRight 19 = .ok (.getfield 13, 3) := by decide +kernel
theorem dX9_blocksAreRight_22 : decode cX9_blocksAreRight 22 = .ok (.iload_n 1, 1) := by decide +kernel
theorem dX9_blocksAreRight_23 : decode cX9_blocksAreRight 23 = .ok (.iaload, 1) := by decide +kernel
theorem dX9_blocksAreRight_24 : decode cX9_blocksAreRight 24 = .ok (.ifCond .eq 29, 3) := by decide +kernel
theorem dX9_blocksAreRight_27 : decode cX9_blocksAreRight 27 = .ok (.aload_n 0, 1) := by decide +kernel
theorem dX9_blocksAreRight_28 : decode cX9_blocksAreRight 28 = .ok (.getfield 13, 3) := by decide +kernel
theorem dX9_blocksAreRight_31 : decode cX9_blocksAreRight 31 = .ok (.iload_n 1, 1) := by decide +kernel
theorem dX9_blocksAreRight_32 : decode cX9_blocksAreRight 32 = .ok (.iaload, 1) := by decide +kernel
theorem dX9_blocksAreRight_33 : decode cX9_blocksAreRight 33 = .ok (.aload_n 0, 1) := by decide +kernel
theorem dX9_blocksAreRight_34 : decode cX9_blocksAreRight 34 = .ok (.getfield 13, 3) := by decide +kernel
theorem dX9_blocksAreRight_37 : decode cX9_blocksAreRight 37 = .ok (.iload_n 2, 1) := by decide +kernel
theorem dX9_blocksAreRight_38 : decode cX9_blocksAreRight 38 = .ok (.iaload, 1) := by decide +kernel
theorem dX9_blocksAreRight_39 : decode cX9_blocksAreRight 39 = .ok (.if_icmp .ne 14, 3) := by decide +kernel
theorem dX9_blocksAreRight_42 : decode cX9_blocksAreRight 42 = .ok (.aload_n 0, 1) := by decide +kernel
theorem dX9_blocksAreRight_43 : decode cX9_blocksAreRight 43 = .ok (.iload_n 1, 1) := by decide +kernel
theorem dX9_blocksAreRight_44 : decode cX9_blocksAreRight 44 = .ok (.iload_n 2, 1) := by decide +kernel
theorem dX9_blocksAreRight_45 : decode cX9_blocksAreRight 45 = .ok (.invokevirtual 105, 3) := by decide +kernel
theorem dX9_blocksAreRight_48 : decode cX9_blocksAreRight 48 = .ok (.ifCond .ne 5, 3) := by decide +kernel
theorem dX9_blocksAreRight_51 : decode cX9_blocksAreRight 51 = .ok (.iconst 0, 1) := by decide +kernel
theorem dX9_blocksAreRight_52 : decode cX9_blocksAreRight 52 = .ok (.ireturn, 1) := by decide +kernel
theorem dX9_blocksAreRight_53 : decode cX9_blocksAreRight 53 = .ok (.iinc 2 1, 3) := by decide +kernel
theorem dX9_blocksAreRight_56 : decode cX9_blocksAreRight 56 = .ok (.goto (-44), 3) := by decide +kernel
theorem dX9_blocksAreRight_59 : decode cX9_blocksAreRight 59 = .ok (.iinc 1 1, 3) := by decide +kernel
theorem dX9_blocksAreRight_62 : decode cX9_blocksAreRight 62 = .ok (.goto (-60), 3) := by decide +kernel
theorem dX9_blocksAreRight_65 : decode cX9_blocksAreRight 65 = .ok (.iconst 1, 1) := by decide +kernel
theorem dX9_blocksAreRight_66 : decode cX9_blocksAreRight 66 = .ok (.ireturn, 1) := by decide +kernel
theorem dX9_two_0 : decode cX9_two 0 = .ok (.iload_n 0, 1) := by decide +kernel
theorem dX9_two_1 : decode cX9_two 1 = .ok (.tableswitch 77 2 7 #[39, 43, 47, 51, 62, 73], 39) := by decide +kernel
theorem dX9_two_40 : decode cX9_two 40 = .ok (.iload_n 1, 1) := by decide +kernel
theorem dX9_two_41 : decode cX9_two 41 = .ok (.iload_n 2, 1) := by decide +kernel
theorem dX9_two_42 : decode cX9_two 42 = .ok (.iadd, 1) := by decide +kernel
theorem dX9_two_43 : decode cX9_two 43 = .ok (.ireturn, 1) := by decide +kernel
theorem dX9_two_44 : decode cX9_two 44 = .ok (.iload_n 1, 1) := by decide +kernel
theorem dX9_two_45 : decode cX9_two 45 = .ok (.iload_n 2, 1) := by decide +kernel
theorem dX9_two_46 : decode cX9_two 46 = .ok (.isub, 1) := by decide +kernel
theorem dX9_two_47 : decode cX9_two 47 = .ok (.ireturn, 1) := by decide +kernel
theorem dX9_two_48 : decode cX9_two 48 = .ok (.iload_n 1, 1) := by decide +kernel
theorem dX9_two_49 : decode cX9_two 49 = .ok (.iload_n 2, 1) := by decide +kernel
theorem dX9_two_50 : decode cX9_two 50 = .ok (.imul, 1) := by decide +kernel
theorem dX9_two_51 : decode cX9_two 51 = .ok (.ireturn, 1) := by decide +kernel
theorem dX9_two_52 : decode cX9_two 52 = .ok (.iload_n 1, 1) := by decide +kernel
theorem dX9_two_53 : decode cX9_two 53 = .ok (.iload_n 2, 1) := by decide +kernel
theorem dX9_two_54 : decode cX9_two 54 = .ok (.if_icmp .ne 7, 3) := by decide +kernel
theorem dX9_two_57 : decode cX9_two 57 = .ok (.iconst 1, 1) := by decide +kernel
theorem dX9_two_58 : decode cX9_two 58 = .ok (.goto 4, 3) := by decide +kernel
theorem dX9_two_61 : decode cX9_two 61 = .ok (.iconst 0, 1) := by decide +kernel
theorem dX9_two_62 : decode cX9_two 62 = .ok (.ireturn, 1) := by decide +kernel
theorem dX9_two_63 : decode cX9_two 63 = .ok (.iload_n 1, 1) := by decide +kernel
theorem dX9_two_64 : decode cX9_two 64 = .ok (.iload_n 2, 1) := by decide +kernel
theorem dX9_two_65 : decode cX9_two 65 = .ok (.if_icmp .ge 7, 3) := by decide +kernel
theorem dX9_two_68 : decode cX9_two 68 = .ok (.iconst 1, 1) := by decide +kernel
theorem dX9_two_69 : decode cX9_two 69 = .ok (.goto 4, 3) := by decide +kernel
theorem dX9_two_72 : decode cX9_two 72 = .ok (.iconst 0, 1) := by decide +kernel
theorem dX9_two_73 : decode cX9_two 73 = .ok (.ireturn, 1) := by decide +kernel
theorem dX9_two_74 : decode cX9_two 74 = .ok (.iload_n 1, 1) := by decide +kernel
theorem dX9_two_75 : decode cX9_two 75 = .ok (.iload_n 2, 1) := by decide +kernel
theorem dX9_two_76 : decode cX9_two 76 = .ok (.iand, 1) := by decide +kernel
theorem dX9_two_77 : decode cX9_two 77 = .ok (.ireturn, 1) := by decide +kernel
theorem dX9_two_78 : decode cX9_two 78 = .ok (.iload_n 1, 1) := by decide +kernel
theorem dX9_two_79 : decode cX9_two 79 = .ok (.iload_n 2, 1) := by decide +kernel
theorem dX9_two_80 : decode cX9_two 80 = .ok (.ior, 1) := by decide +kernel
theorem dX9_two_81 : decode cX9_two 81 = .ok (.ireturn, 1) := by decide +kernel
theorem dX9_done_0 : decode cX9_done 0 = .ok (.iload_n 1, 1) := by decide +kernel
theorem dX9_done_1 : decode cX9_done 1 = .ok (.sipush 255, 3) := by decide +kernel
theorem dX9_done_4 : decode cX9_done 4 = .ok (.iand, 1) := by decide +kernel
theorem dX9_done_5 : decode cX9_done 5 = .ok (.istore_n 3, 1) := by decide +kernel
theorem dX9_done_6 : decode cX9_done 6 = .ok (.iload_n 3, 1) := by decide +kernel
theorem dX9_done_7 : decode cX9_done 7 = .ok (.ifCond .eq 8, 3) := by decide +kernel
theorem dX9_done_10 : decode cX9_done 10 = .ok (.iload_n 3, 1) := by decide +kernel
theorem dX9_done_11 : decode cX9_done 11 = .ok (.iconst 1, 1) := by decide +kernel
theorem dX9_done_12 : decode cX9_done 12 = .ok (.if_icmp .ne 33, 3) := by decide +kernel
theorem dX9_done_15 : decode cX9_done 15 = .ok (.aload_n 0, 1) := by decide +kernel
theorem dX9_done_16 : decode cX9_done 16 = .ok (.getfield 43, 3) := by decide +kernel
theorem dX9_done_19 : decode cX9_done 19 = .ok (.iload_n 2, 1) := by decide +kernel
theorem dX9_done_20 : decode cX9_done 20 = .ok (.iload_n 3, 1) := by decide +kernel
theorem dX9_done_21 : decode cX9_done 21 = .ok (.ifCond .ne 10, 3) := by decide +kernel
theorem dX9_done_24 : decode cX9_done 24 = .ok (.iload_n 1, 1) := by decide +kernel
theorem dX9_done_25 : decode cX9_done 25 = .ok (.bipush 8, 2) := by decide +kernel
theorem dX9_done_27 : decode cX9_done 27 = .ok (.ishr, 1) := by decide +kernel
theorem dX9_done_28 : decode cX9_done 28 = .ok (.goto 12, 3) := by decide +kernel
theorem dX9_done_31 : decode cX9_done 31 = .ok (.aload_n 0, 1) := by decide +kernel
theorem dX9_done_32 : decode cX9_done 32 = .ok (.getfield 34, 3) := by decide +kernel
theorem dX9_done_35 : decode cX9_done 35 = .ok (.iload_n 1, 1) := by decide +kernel
theorem dX9_done_36 : decode cX9_done 36 = .ok (.bipush 8, 2) := by decide +kernel
theorem dX9_done_38 : decode cX9_done 38 = .ok (.ishr, 1) := by decide +kernel
theorem dX9_done_39 : decode cX9_done 39 = .ok (.iaload, 1) := by decide +kernel
theorem dX9_done_40 : decode cX9_done 40 = .ok (.iastore, 1) := by decide +kernel
theorem dX9_done_41 : decode cX9_done 41 = .ok (.iload_n 2, 1) := by decide +kernel
theorem dX9_done_42 : decode cX9_done 42 = .ok (.iconst 1, 1) := by decide +kernel
theorem dX9_done_43 : decode cX9_done 43 = .ok (.iadd, 1) := by decide +kernel
theorem dX9_done_44 : decode cX9_done 44 = .ok (.ireturn, 1) := by decide +kernel
theorem dX9_done_45 : decode cX9_done 45 = .ok (.iload_n 3, 1) := by decide +kernel
theorem dX9_done_46 : decode cX9_done 46 = .ok (.bipush 9, 2) := by decide +kernel
