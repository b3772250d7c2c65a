theorem dX9_done_48 : decode cX9_done 48 = .ok (.if_icmp .ne 29, 3) := by decide +kernel
theorem dX9_done_51 : decode cX9_done 51 = .ok (.aload_n 0, 1) := by decide +kernel
theorem dX9_done_52 : decode cX9_done 52 = .ok (.getfield 43, 3) := by decide +kernel
theorem dX9_done_55 : decode cX9_done 55 = .ok (.iload_n 2, 1) := by decide +kernel
theorem dX9_done_56 : decode cX9_done 56 = .ok (.iconst 1, 1) := by decide +kernel
theorem dX9_done_57 : decode cX9_done 57 = .ok (.isub, 1) := by decide +kernel
theorem dX9_done_58 : decode cX9_done 58 = .ok (.aload_n 0, 1) := by decide +kernel
theorem dX9_done_59 : decode cX9_done 59 = .ok (.getfield 43, 3) := by decide +kernel
theorem dX9_done_62 : decode cX9_done 62 = .ok (.iload_n 2, 1) := by decide +kernel
theorem dX9_done_63 : decode cX9_done 63 = .ok (.iconst 1, 1) := by decide +kernel
theorem dX9_done_64 : decode cX9_done 64 = .ok (.isub, 1) := by decide +kernel
theorem dX9_done_65 : decode cX9_done 65 = .ok (.iaload, 1) := by decide +kernel
theorem dX9_done_66 : decode cX9_done 66 = .ok (.ifCond .ne 7, 3) := by decide +kernel
theorem dX9_done_69 : decode cX9_done 69 = .ok (.iconst 1, 1) := by decide +kernel
theorem dX9_done_70 : decode cX9_done 70 = .ok (.goto 4, 3) := by decide +kernel
theorem dX9_done_73 : decode cX9_done 73 = .ok (.iconst 0, 1) := by decide +kernel
theorem dX9_done_74 : decode cX9_done 74 = .ok (.iastore, 1) := by decide +kernel
theorem dX9_done_75 : decode cX9_done 75 = .ok (.iload_n 2, 1) := by decide +kernel
theorem dX9_done_76 : decode cX9_done 76 = .ok (.ireturn, 1) := by decide +kernel
theorem dX9_done_77 : decode cX9_done 77 = .ok (.aload_n 0, 1) := by decide +kernel
theorem dX9_done_78 : decode cX9_done 78 = .ok (.getfield 43, 3) := by decide +kernel
theorem dX9_done_81 : decode cX9_done 81 = .ok (.iload_n 2, 1) := by decide +kernel
theorem dX9_done_82 : decode cX9_done 82 = .ok (.iconst 2, 1) := by decide +kernel
theorem dX9_done_83 : decode cX9_done 83 = .ok (.isub, 1) := by decide +kernel
theorem dX9_done_84 : decode cX9_done 84 = .ok (.iload_n 3, 1) := by decide +kernel
theorem dX9_done_85 : decode cX9_done 85 = .ok (.aload_n 0, 1) := by decide +kernel
theorem dX9_done_86 : decode cX9_done 86 = .ok (.getfield 43, 3) := by decide +kernel
theorem dX9_done_89 : decode cX9_done 89 = .ok (.iload_n 2, 1) := by decide +kernel
theorem dX9_done_90 : decode cX9_done 90 = .ok (.iconst 2, 1) := by decide +kernel
theorem dX9_done_91 : decode cX9_done 91 = .ok (.isub, 1) := by decide +kernel
theorem dX9_done_92 : decode cX9_done 92 = .ok (.iaload, 1) := by decide +kernel
theorem dX9_done_93 : decode cX9_done 93 = .ok (.aload_n 0, 1) := by decide +kernel
theorem dX9_done_94 : decode cX9_done 94 = .ok (.getfield 43, 3) := by decide +kernel
theorem dX9_done_97 : decode cX9_done 97 = .ok (.iload_n 2, 1) := by decide +kernel
theorem dX9_done_98 : decode cX9_done 98 = .ok (.iconst 1, 1) := by decide +kernel
theorem dX9_done_99 : decode cX9_done 99 = .ok (.isub, 1) := by decide +kernel
theorem dX9_done_100 : decode cX9_done 100 = .ok (.iaload, 1) := by decide +kernel
theorem dX9_done_101 : decode cX9_done 101 = .ok (.invokestatic 109, 3) := by decide +kernel
theorem dX9_done_104 : decode cX9_done 104 = .ok (.iastore, 1) := by decide +kernel
theorem dX9_done_105 : decode cX9_done 105 = .ok (.iload_n 2, 1) := by decide +kernel
theorem dX9_done_106 : decode cX9_done 106 = .ok (.iconst 1, 1) := by decide +kernel
theorem dX9_done_107 : decode cX9_done 107 = .ok (.isub, 1) := by decide +kernel
theorem dX9_done_108 : decode cX9_done 108 = .ok (.ireturn, 1) := by decide +kernel
theorem dX9_holds_0 : decode cX9_holds 0 = .ok (.iconst 0, 1) := by decide +kernel
theorem dX9_holds_1 : decode cX9_holds 1 = .ok (.istore_n 1, 1) := by decide +kernel
theorem dX9_holds_2 : decode cX9_holds 2 = .ok (.iconst 0, 1) := by decide +kernel
theorem dX9_holds_3 : decode cX9_holds 3 = .ok (.istore_n 2, 1) := by decide +kernel
theorem dX9_holds_4 : decode cX9_holds 4 = .ok (.iload_n 2, 1) := by decide +kernel
theorem dX9_holds_5 : decode cX9_holds 5 = .ok (.aload_n 0, 1) := by decide +kernel
theorem dX9_holds_6 : decode cX9_holds 6 = .ok (.getfield 53, 3) := by decide +kernel
theorem dX9_holds_9 : decode cX9_holds 9 = .ok (.if_icmp .ge 52, 3) := by decide +kernel
theorem dX9_holds_12 : decode cX9_holds 12 = .ok (.aload_n 0, 1) := by decide +kernel
theorem dX9_holds_13 : decode cX9_holds 13 = .ok (.getfield 25, 3) := by decide +kernel
theorem dX9_holds_16 : decode cX9_holds 16 = .ok (.iload_n 2, 1) := by decide +kernel
theorem dX9_holds_17 : decode cX9_holds 17 = .ok (.iaload, 1) := by decide +kernel
theorem dX9_holds_18 : decode cX9_holds 18 = .ok (.sipush 255, 3) := by decide +kernel
theorem dX9_holds_21 : decode cX9_holds 21 = .ok (.iand, 1) := by decide +kernel
theorem dX9_holds_22 : decode cX9_holds 22 = .ok (.bipush 12, 2) := by decide +kernel
theorem dX9_holds_24 : decode cX9_holds 24 = .ok (.if_icmp .ne 19, 3) := by decide +kernel
theorem dX9_holds_27 : decode cX9_holds 27 = .ok (.aload_n 0, 1) := by decide +kernel
theorem dX9_holds_28 : decode cX9_holds 28 = .ok (.getfield 43, 3) := by decide +kernel
theorem dX9_holds_31 : decode cX9_holds 31 = .ok (.iconst 0, 1) := by decide +kernel
theorem dX9_holds_32 : decode cX9_holds 32 = .ok (.iaload, 1) := by decide +kernel
theorem dX9_holds_33 : decode cX9_holds 33 = .ok (.ifCond .ne 5, 3) := by decide +kernel
theorem dX9_holds_36 : decode cX9_holds 36 = .ok (.iconst 0, 1) := by decide +kernel
theorem dX9_holds_37 : decode cX9_holds 37 = .ok (.ireturn, 1) := by decide +kernel
theorem dX9_holds_38 : decode cX9_holds 38 = .ok (.iconst 0, 1) := by decide +kernel
theorem dX9_holds_39 : decode cX9_holds 39 = .ok (.istore_n 1, 1) := by decide +kernel
theorem dX9_holds_40 : decode cX9_holds 40 = .ok (.goto 15, 3) := by decide +kernel
theorem dX9_holds_43 : decode cX9_holds 43 = .ok (.aload_n 0, 1) := by decide +kernel
theorem dX9_holds_44 : decode cX9_holds 44 = .ok (.aload_n 0, 1) := by decide +kernel
theorem dX9_holds_45 : decode cX9_holds 45 = .ok (.getfield 25, 3) := by decide +kernel
theorem dX9_holds_48 : decode cX9_holds 48 = .ok (.iload_n 2, 1) := by decide +kernel
theorem dX9_holds_49 : decode cX9_holds 49 = .ok (.iaload, 1) := by decide +kernel
theorem dX9_holds_50 : decode cX9_holds 50 = .ok (.iload_n 1, 1) := by decide +kernel
theorem dX9_holds_51 : decode cX9_holds 51 = .ok (.invokevirtual 112, 3) := by decide +kernel
theorem dX9_holds_54 : decode cX9_holds 54 = .ok (.istore_n 1, 1) := by decide +kernel
theorem dX9_holds_55 : decode cX9_holds 55 = .ok (.iinc 2 1, 3) := by decide +kernel
theorem dX9_holds_58 : decode cX9_holds 58 = .ok (.goto (-54), 3) := by decide +kernel
theorem dX9_holds_61 : decode cX9_holds 61 = .ok (.aload_n 0, 1) := by decide +kernel
theorem dX9_holds_62 : decode cX9_holds 62 = .ok (.getfield 43, 3) := by decide +kernel
theorem dX9_holds_65 : decode cX9_holds 65 = .ok (.iconst 0, 1) := by decide +kernel
theorem dX9_holds_66 : decode cX9_holds 66 = .ok (.iaload, 1) := by decide +kernel
theorem dX9_holds_67 : decode cX9_holds 67 = .ok (.ifCond .eq 7, 3) := by decide +kernel
theorem dX9_holds_70 : decode cX9_holds 70 = .ok (.iconst 1, 1) := by decide +kernel
theorem dX9_holds_71 : decode cX9_holds 71 = .ok (.goto 4, 3) := by decide +kernel
theorem dX9_holds_74 : decode cX9_holds 74 = .ok (.iconst 0, 1) := by decide +kernel
theorem dX9_holds_75 : decode cX9_holds 75 = .ok (.ireturn, 1) := by decide +kernel
theorem dX9_fires_0 : decode cX9_fires 0 = .ok (.iconst 0, 1) := by decide +kernel
theorem dX9_fires_1 : decode cX9_fires 1 = .ok (.istore_n 2, 1) := by decide +kernel
theorem dX9_fires_2 : decode cX9_fires 2 = .ok (.iconst 0, 1) := by decide +kernel
theorem dX9_fires_3 : decode cX9_fires 3 = .ok (.istore_n 3, 1) := by decide +kernel
theorem dX9_fires_4 : decode cX9_fires 4 = .ok (.iconst 0, 1) := by decide +kernel
theorem dX9_fires_5 : decode cX9_fires 5 = .ok (.istore 4, 2) := by decide +kernel
theorem dX9_fires_7 : decode cX9_fires 7 = .ok (.iload 4, 2) := by decide +kernel
theorem dX9_fires_9 : decode cX9_fires 9 = .ok (.aload_n 0, 1) := by decide +kernel
theorem dX9_fires_10 : decode cX9_fires 10 = .ok (.getfield 22, 3) := by decide +kernel
theorem dX9_fires_13 : decode cX9_fires 13 = .ok (.iload_n 1, 1) := by decide +kernel
theorem dX9_fires_14 : decode cX9_fires 14 = .ok (.iaload, 1) := by decide +kernel
theorem dX9_fires_15 : decode cX9_fires 15 = .ok (.if_icmp .ge 54, 3) := by decide +kernel
theorem dX9_fires_18 : decode cX9_fires 18 = .ok (.iload_n 3, 1) := by decide +kernel
theorem dX9_fires_19 : decode cX9_fires 19 = .ok (.ifCond .ne 50, 3) := by decide +kernel
theorem dX9_fires_22 : decode cX9_fires 22 = .ok (.aload_n 0, 1) := by decide +kernel
theorem dX9_fires_23 : decode cX9_fires 23 = .ok (.getfield 19, 3) := by decide +kernel
theorem dX9_fires_26 : decode cX9_fires 26 = .ok (.bipush 32, 2) := by decide +kernel
theorem dX9_fires_28 : decode cX9_fires 28 = .ok (.iload_n 1, 1) := by decide +kernel
theorem dX9_fires_29 : decode cX9_fires 29 = .ok (.imul, 1) := by decide +kernel
theorem dX9_fires_30 : decode cX9_fires 30 = .ok (.iload 4, 2) := by decide +kernel
theorem dX9_fires_32 : decode cX9_fires 32 = .ok (.iadd, 1) := by decide +kernel
theorem dX9_fires_33 : decode cX9_fires 33 = .ok (.iaload, 1) := by decide +kernel
theorem dX9_fires_34 : decode cX9_fires 34 = .ok (.istore 5, 2) := by decide +kernel
theorem dX9_fires_36 : decode cX9_fires 36 = .ok (.iload 5, 2) := by decide +kernel
theorem dX9_fires_38 : decode cX9_fires 38 = .ok (.sipush 255, 3) := by decide +kernel
theorem dX9_fires_41 : decode cX9_fires 41 = .ok (.iand, 1) := by decide +kernel
theorem dX9_fires_42 : decode cX9_fires 42 = .ok (.bipush 10, 2) := by decide +kernel
theorem dX9_fires_44 : decode cX9_fires 44 = .ok (.if_icmp .ne 11, 3) := by decide +kernel
theorem dX9_fires_47 : decode cX9_fires 47 = .ok (.iload 4, 2) := by decide +kernel
theorem dX9_fires_49 : decode cX9_fires 49 = .ok (.iconst 1, 1) := by decide +kernel
theorem dX9_fires_50 : decode cX9_fires 50 = .ok (.iadd, 1) := by decide +kernel
theorem dX9_fires_51 : decode cX9_fires 51 = .ok (.istore_n 3, 1) := by decide +kernel
theorem dX9_fires_52 : decode cX9_fires 52 = .ok (.goto 11, 3) := by decide +kernel
theorem dX9_fires_55 : decode cX9_fires 55 = .ok (.aload_n 0, 1) := by decide +kernel
theorem dX9_fires_56 : decode cX9_fires 56 = .ok (.iload 5, 2) := by decide +kernel
theorem dX9_fires_58 : decode cX9_fires 58 = .ok (.iload_n 2, 1) := by decide +kernel
theorem dX9_fires_59 : decode cX9_fires 59 = .ok (.invokevirtual 112, 3) := by decide +kernel
theorem dX9_fires_62 : decode cX9_fires 62 = .ok (.istore_n 2, 1) := by decide +kernel
theorem dX9_fires_63 : decode cX9_fires 63 = .ok (.iinc 4 1, 3) := by decide +kernel
theorem dX9_fires_66 : decode cX9_fires 66 = .ok (.goto (-59), 3) := by decide +kernel
theorem dX9_fires_69 : decode cX9_fires 69 = .ok (.aload_n 0, 1) := by decide +kernel
theorem dX9_fires_70 : decode cX9_fires 70 = .ok (.getfield 43, 3) := by decide +kernel
theorem dX9_fires_73 : decode cX9_fires 73 = .ok (.iconst 0, 1) := by decide +kernel
theorem dX9_fires_74 : decode cX9_fires 74 = .ok (.iaload, 1) := by decide +kernel
theorem dX9_fires_75 : decode cX9_fires 75 = .ok (.ifCond .ne 5, 3) := by decide +kernel
theorem dX9_fires_78 : decode cX9_fires 78 = .ok (.iconst 0, 1) := by decide +kernel
theorem dX9_fires_79 : decode cX9_fires 79 = .ok (.ireturn, 1) := by decide +kernel
theorem dX9_fires_80 : decode cX9_fires 80 = .ok (.iconst 0, 1) := by decide +kernel
theorem dX9_fires_81 : decode cX9_fires 81 = .ok (.istore 4, 2) := by decide +kernel
theorem dX9_fires_83 : decode cX9_fires 83 = .ok (.iload 4, 2) := by decide +kernel
theorem dX9_fires_85 : decode cX9_fires 85 = .ok (.bipush 6, 2) := by decide +kernel
theorem dX9_fires_87 : decode cX9_fires 87 = .ok (.if_icmp .ge 23, 3) := by decide +kernel
theorem dX9_fires_90 : decode cX9_fires 90 = .ok (.aload_n 0, 1) := by decide +kernel
theorem dX9_fires_91 : decode cX9_fires 91 = .ok (.getfield 37, 3) := by decide +kernel
theorem dX9_fires_94 : decode cX9_fires 94 = .ok (.iload 4, 2) := by decide +kernel
theorem dX9_fires_96 : decode cX9_fires 96 = .ok (.aload_n 0, 1) := by decide +kernel
theorem dX9_fires_97 : decode cX9_fires 97 = .ok (.getfield 34, 3) := by decide +kernel
theorem dX9_fires_100 : decode cX9_fires 100 = .ok (.iload 4, 2) := by decide +kernel
theorem dX9_fires_102 : decode cX9_fires 102 = .ok (.iaload, 1) := by decide +kernel
theorem dX9_fires_103 : decode cX9_fires 103 = .ok (.iastore, 1) := by decide +kernel
theorem dX9_fires_104 : decode cX9_fires 104 = .ok (.iinc 4 1, 3) := by decide +kernel
theorem dX9_fires_107 : decode cX9_fires 107 = .ok (.goto (-24), 3) := by decide +kernel
theorem dX9_fires_110 : decode cX9_fires 110 = .ok (.iconst 0, 1) := by decide +kernel
theorem dX9_fires_111 : decode cX9_fires 111 = .ok (.istore_n 2, 1) := by decide +kernel
theorem dX9_fires_112 : decode cX9_fires 112 = .ok (.iload_n 3, 1) := by decide +kernel
theorem dX9_fires_113 : decode cX9_fires 113 = .ok (.istore 4, 2) := by decide +kernel
theorem dX9_fires_115 : decode cX9_fires 115 = .ok (.iload 4, 2) := by decide +kernel
theorem dX9_fires_117 : decode cX9_fires 117 = .ok (.aload_n 0, 1) := by decide +kernel
theorem dX9_fires_118 : decode cX9_fires 118 = .ok (.getfield 22, 3) := by decide +kernel
theorem dX9_fires_121 : decode cX9_fires 121 = .ok (.iload_n 1, 1) := by decide +kernel
theorem dX9_fires_122 : decode cX9_fires 122 = .ok (.iaload, 1) := by decide +kernel
theorem dX9_fires_123 : decode cX9_fires 123 = .ok (.if_icmp .ge 64, 3) := by decide +kernel
theorem dX9_fires_126 : decode cX9_fires 126 = .ok (.aload_n 0, 1) := by decide +kernel
theorem dX9_fires_127 : decode cX9_fires 127 = .ok (.getfield 19, 3) := by decide +kernel
theorem dX9_fires_130 : decode cX9_fires 130 = .ok (.bipush 32, 2) := by decide +kernel
theorem dX9_fires_132 : decode cX9_fires 132 = .ok (.iload_n 1, 1) := by decide +kernel
theorem dX9_fires_133 : decode cX9_fires 133 = .ok (.imul, 1) := by decide +kernel
theorem dX9_fires_134 : decode cX9_fires 134 = .ok (.iload 4, 2) := by decide +kernel
theorem dX9_fires_136 : decode cX9_fires 136 = .ok (.iadd, 1) := by decide +kernel
theorem dX9_fires_137 : decode cX9_fires 137 = .ok (.iaload, 1) := by decide +kernel
theorem dX9_fires_138 : decode cX9_fires 138 = .ok (.istore 5, 2) := by decide +kernel
theorem dX9_fires_140 : decode cX9_fires 140 = .ok (.iload 5, 2) := by decide +kernel
theorem dX9_fires_142 : decode cX9_fires 142 = .ok (.sipush 255, 3) := by decide +kernel
theorem dX9_fires_145 : decode cX9_fires 145 = .ok (.iand, 1) := by decide +kernel
theorem dX9_fires_146 : decode cX9_fires 146 = .ok (.bipush 11, 2) := by decide +kernel
theorem dX9_fires_148 : decode cX9_fires 148 = .ok (.if_icmp .ne 25, 3) := by decide +kernel
theorem dX9_fires_151 : decode cX9_fires 151 = .ok (.iinc 2 (-1), 3) := by decide +kernel
theorem dX9_fires_154 : decode cX9_fires 154 = .ok (.aload_n 0, 1) := by decide +kernel
theorem dX9_fires_155 : decode cX9_fires 155 = .ok (.getfield 37, 3) := by decide +kernel
theorem dX9_fires_158 : decode cX9_fires 158 = .ok (.iload 5, 2) := by decide +kernel
theorem dX9_fires_160 : decode cX9_fires 160 = .ok (.bipush 8, 2) := by decide +kernel
theorem dX9_fires_162 : decode cX9_fires 162 = .ok (.ishr, 1) := by decide +kernel
theorem dX9_fires_163 : decode cX9_fires 163 = .ok (.aload_n 0, 1) := by decide +kernel
theorem dX9_fires_164 : decode cX9_fires 164 = .ok (.getfield 43, 3) := by decide +kernel
theorem dX9_fires_167 : decode cX9_fires 167 = .ok (.iload_n 2, 1) := by decide +kernel
theorem dX9_fires_168 : decode cX9_fires 168 = .ok (.iaload, 1) := by decide +kernel
theorem dX9_fires_169 : decode cX9_fires 169 = .ok (.iastore, 1) := by decide +kernel
theorem dX9_fires_170 : decode cX9_fires 170 = .ok (.goto 11, 3) := by decide +kernel
theorem dX9_fires_173 : decode cX9_fires 173 = .ok (.aload_n 0, 1) := by decide +kernel
theorem dX9_fires_174 : decode cX9_fires 174 = .ok (.iload 5, 2) := by decide +kernel
theorem dX9_fires_176 : decode cX9_fires 176 = .ok (.iload_n 2, 1) := by decide +kernel
theorem dX9_fires_177 : decode cX9_fires 177 = .ok (.invokevirtual 112, 3) := by decide +kernel
theorem dX9_fires_180 : decode cX9_fires 180 = .ok (.istore_n 2, 1) := by decide +kernel
theorem dX9_fires_181 : decode cX9_fires 181 = .ok (.iinc 4 1, 3) := by decide +kernel
theorem dX9_fires_184 : decode cX9_fires 184 = .ok (.goto (-69), 3) := by decide +kernel
theorem dX9_fires_187 : decode cX9_fires 187 = .ok (.iconst 1, 1) := by decide +kernel
theorem dX9_fires_188 : decode cX9_fires 188 = .ok (.ireturn, 1) := by decide +kernel
theorem dX9_place_0 : decode cX9_place 0 = .ok (.iconst 0, 1) := by decide +kernel
theorem dX9_place_1 : decode cX9_place 1 = .ok (.istore_n 2, 1) := by decide +kernel
theorem dX9_place_2 : decode cX9_place 2 = .ok (.iconst 0, 1) := by decide +kernel
theorem dX9_place_3 : decode cX9_place 3 = .ok (.istore_n 3, 1) := by decide +kernel
theorem dX9_place_4 : decode cX9_place 4 = .ok (.iload_n 3, 1) := by decide +kernel
theorem dX9_place_5 : decode cX9_place 5 = .ok (.bipush 6, 2) := by decide +kernel
theorem dX9_place_7 : decode cX9_place 7 = .ok (.if_icmp .ge 67, 3) := by decide +kernel
theorem dX9_place_10 : decode cX9_place 10 = .ok (.iload_n 3, 1) := by decide +kernel
theorem dX9_place_11 : decode cX9_place 11 = .ok (.iload_n 1, 1) := by decide +kernel
theorem dX9_place_12 : decode cX9_place 12 = .ok (.if_icmp .eq 56, 3) := by decide +kernel
theorem dX9_place_15 : decode cX9_place 15 = .ok (.aload_n 0, 1) := by decide +kernel
theorem dX9_place_16 : decode cX9_place 16 = .ok (.getfield 13, 3) := by decide +kernel
theorem dX9_place_19 : decode cX9_place 19 = .ok (.iload_n 3, 1) := by decide +kernel
theorem dX9_place_20 : decode cX9_place 20 = .ok (.iaload, 1) := by decide +kernel
theorem dX9_place_21 : decode cX9_place 21 = .ok (.aload_n 0, 1) := by decide +kernel
theorem dX9_place_22 : decode cX9_place 22 = .ok (.getfield 13, 3) := by decide +kernel
theorem dX9_place_25 : decode cX9_place 25 = .ok (.iload_n 1, 1) := by decide +kernel
theorem dX9_place_26 : decode cX9_place 26 = .ok (.iaload, 1) := by decide +kernel
theorem dX9_place_27 : decode cX9_place 27 = .ok (.if_icmp .ne 41, 3) := by decide +kernel
theorem dX9_place_30 : decode cX9_place 30 = .ok (.aload_n 0, 1) := by decide +kernel
theorem dX9_place_31 : decode cX9_place 31 = .ok (.getfield 37, 3) := by decide +kernel
theorem dX9_place_34 : decode cX9_place 34 = .ok (.iload_n 3, 1) := by decide +kernel
theorem dX9_place_35 : decode cX9_place 35 = .ok (.iaload, 1) := by decide +kernel
theorem dX9_place_36 : decode cX9_place 36 = .ok (.aload_n 0, 1) := by decide +kernel
theorem dX9_place_37 : decode cX9_place 37 = .ok (.getfield 37, 3) := by decide +kernel
theorem dX9_place_40 : decode cX9_place 40 = .ok (.iload_n 1, 1) := by decide +kernel
theorem dX9_place_41 : decode cX9_place 41 = .ok (.iaload, 1) := by decide +kernel
theorem dX9_place_42 : decode cX9_place 42 = .ok (.if_icmp .lt 23, 3) := by decide +kernel
theorem dX9_place_45 : decode cX9_place 45 = .ok (.aload_n 0, 1) := by decide +kernel
theorem dX9_place_46 : decode cX9_place 46 = .ok (.getfield 37, 3) := by decide +kernel
theorem dX9_place_49 : decode cX9_place 49 = .ok (.iload_n 3, 1) := by decide +kernel
theorem dX9_place_50 : decode cX9_place 50 = .ok (.iaload, 1) := by decide +kernel
theorem dX9_place_51 : decode cX9_place 51 = .ok (.aload_n 0, 1) := by decide +kernel
theorem dX9_place_52 : decode cX9_place 52 = .ok (.getfield 37, 3) := by decide +kernel
theorem dX9_place_55 : decode cX9_place 55 = .ok (.iload_n 1, 1) := by decide +kernel
theorem dX9_place_56 : decode cX9_place 56 = .ok (.iaload, 1) := by decide +kernel
theorem dX9_place_57 : decode cX9_place 57 = .ok (.if_icmp .ne 11, 3) := by decide +kernel
theorem dX9_place_60 : decode cX9_place 60 = .ok (.iload_n 3, 1) := by decide +kernel
theorem dX9_place_61 : decode cX9_place 61 = .ok (.iload_n 1, 1) := by decide +kernel
theorem dX9_place_62 : decode cX9_place 62 = .ok (.if_icmp .ge 6, 3) := by decide +kernel
theorem dX9_place_65 : decode cX9_place 65 = .ok (.iinc 2 1, 3) := by decide +kernel
theorem dX9_place_68 : decode cX9_place 68 = .ok (.iinc 3 1, 3) := by decide +kernel
theorem dX9_place_71 : decode cX9_place 71 = .ok (.goto (-67), 3) := by decide +kernel
theorem dX9_place_74 : decode cX9_place 74 = .ok (.iload_n 2, 1) := by decide +kernel
theorem dX9_place_75 : decode cX9_place 75 = .ok (.ireturn, 1) := by decide +kernel
theorem dX9_inOrder_0 : decode cX9_inOrder 0 = .ok (.aload_n 0, 1) := by decide +kernel
theorem dX9_inOrder_1 : decode cX9_inOrder 1 = .ok (.getfield 13, 3) := by decide +kernel
theorem dX9_inOrder_4 : decode cX9_inOrder 4 = .ok (.iload_n 1, 1) := by decide +kernel
theorem dX9_inOrder_5 : decode cX9_inOrder 5 = .ok (.iaload, 1) := by decide +kernel
theorem dX9_inOrder_6 : decode cX9_inOrder 6 = .ok (.ifCond .ne 10, 3) := by decide +kernel
theorem dX9_inOrder_9 : decode cX9_inOrder 9 = .ok (.aload_n 0, 1) := by decide +kernel
theorem dX9_inOrder_10 : decode cX9_inOrder 10 = .ok (.getfield 37, 3) := by decide +kernel
theorem dX9_inOrder_13 : decode cX9_inOrder 13 = .ok (.iload_n 1, 1) := by decide +kernel
theorem dX9_inOrder_14 : decode cX9_inOrder 14 = .ok (.iaload, 1) := by decide +kernel
theorem dX9_inOrder_15 : decode cX9_inOrder 15 = .ok (.ireturn, 1) := by decide +kernel
theorem dX9_inOrder_16 : decode cX9_inOrder 16 = .ok (.iconst 0, 1) := by decide +kernel
theorem dX9_inOrder_17 : decode cX9_inOrder 17 = .ok (.istore_n 2, 1) := by decide +kernel
theorem dX9_inOrder_18 : decode cX9_inOrder 18 = .ok (.iconst 0, 1) := by decide +kernel
theorem dX9_inOrder_19 : decode cX9_inOrder 19 = .ok (.istore_n 3, 1) := by decide +kernel
theorem dX9_inOrder_20 : decode cX9_inOrder 20 = .ok (.iload_n 3, 1) := by decide +kernel
theorem dX9_inOrder_21 : decode cX9_inOrder 21 = .ok (.iload_n 1, 1) := by decide +kernel
theorem dX9_inOrder_22 : decode cX9_inOrder 22 = .ok (.if_icmp .ge 27, 3) := by decide +kernel
theorem dX9_inOrder_25 : decode cX9_inOrder 25 = .ok (.aload_n 0, 1) := by decide +kernel
theorem dX9_inOrder_26 : decode cX9_inOrder 26 = .ok (.getfield 13, 3) := by decide +kernel
theorem dX9_inOrder_29 : decode cX9_inOrder 29 = .ok (.iload_n 3, 1) := by decide +kernel
theorem dX9_inOrder_30 : decode cX9_inOrder 30 = .ok (.iaload, 1) := by decide +kernel
theorem dX9_inOrder_31 : decode cX9_inOrder 31 = .ok (.aload_n 0, 1) := by decide +kernel
theorem dX9_inOrder_32 : decode cX9_inOrder 32 = .ok (.getfield 13, 3) := by decide +kernel
theorem dX9_inOrder_35 : decode cX9_inOrder 35 = .ok (.iload_n 1, 1) := by decide +kernel
theorem dX9_inOrder_36 : decode cX9_inOrder 36 = .ok (.iaload, 1) := by decide +kernel
theorem dX9_inOrder_37 : decode cX9_inOrder 37 = .ok (.if_icmp .ne 6, 3) := by decide +kernel
theorem dX9_inOrder_40 : decode cX9_inOrder 40 = .ok (.iinc 2 1, 3) := by decide +kernel
theorem dX9_inOrder_43 : decode cX9_inOrder 43 = .ok (.iinc 3 1, 3) := by decide +kernel
theorem dX9_inOrder_46 : decode cX9_inOrder 46 = .ok (.goto (-26), 3) := by decide +kernel
theorem dX9_inOrder_49 : decode cX9_inOrder 49 = .ok (.iconst 0, 1) := by decide +kernel
theorem dX9_inOrder_50 : decode cX9_inOrder 50 = .ok (.istore_n 3, 1) := by decide +kernel
theorem dX9_inOrder_51 : decode cX9_inOrder 51 = .ok (.iload_n 3, 1) := by decide +kernel
theorem dX9_inOrder_52 : decode cX9_inOrder 52 = .ok (.bipush 6, 2) := by decide +kernel
theorem dX9_inOrder_54 : decode cX9_inOrder 54 = .ok (.if_icmp .ge 40, 3) := by decide +kernel
theorem dX9_inOrder_57 : decode cX9_inOrder 57 = .ok (.aload_n 0, 1) := by decide +kernel
theorem dX9_inOrder_58 : decode cX9_inOrder 58 = .ok (.getfield 13, 3) := by decide +kernel
theorem dX9_inOrder_61 : decode cX9_inOrder 61 = .ok (.iload_n 3, 1) := by decide +kernel
theorem dX9_inOrder_62 : decode cX9_inOrder 62 = .ok (.iaload, 1) := by decide +kernel
theorem dX9_inOrder_63 : decode cX9_inOrder 63 = .ok (.aload_n 0, 1) := by decide +kernel
theorem dX9_inOrder_64 : decode cX9_inOrder 64 = .ok (.getfield 13, 3) := by decide +kernel
theorem dX9_inOrder_67 : decode cX9_inOrder 67 = .ok (.iload_n 1, 1) := by decide +kernel
theorem dX9_inOrder_68 : decode cX9_inOrder 68 = .ok (.iaload, 1) := by decide +kernel
theorem dX9_inOrder_69 : decode cX9_inOrder 69 = .ok (.if_icmp .ne 19, 3) := by decide +kernel
theorem dX9_inOrder_72 : decode cX9_inOrder 72 = .ok (.aload_n 0, 1) := by decide +kernel
theorem dX9_inOrder_73 : decode cX9_inOrder 73 = .ok (.iload_n 3, 1) := by decide +kernel
theorem dX9_inOrder_74 : decode cX9_inOrder 74 = .ok (.invokevirtual 115, 3) := by decide +kernel
theorem dX9_inOrder_77 : decode cX9_inOrder 77 = .ok (.iload_n 2, 1) := by decide +kernel
theorem dX9_inOrder_78 : decode cX9_inOrder 78 = .ok (.if_icmp .ne 10, 3) := by decide +kernel
theorem dX9_inOrder_81 : decode cX9_inOrder 81 = .ok (.aload_n 0, 1) := by decide +kernel
theorem dX9_inOrder_82 : decode cX9_inOrder 82 = .ok (.getfield 37, 3) := by decide +kernel
theorem dX9_inOrder_85 : decode cX9_inOrder 85 = .ok (.iload_n 3, 1) := by decide +kernel
theorem dX9_inOrder_86 : decode cX9_inOrder 86 = .ok (.iaload, 1) := by decide +kernel
theorem dX9_inOrder_87 : decode cX9_inOrder 87 = .ok (.ireturn, 1) := by decide +kernel
theorem dX9_inOrder_88 : decode cX9_inOrder 88 = .ok (.iinc 3 1, 3) := by decide +kernel
theorem dX9_inOrder_91 : decode cX9_inOrder 91 = .ok (.goto (-40), 3) := by decide +kernel
theorem dX9_inOrder_94 : decode cX9_inOrder 94 = .ok (.iconst 0, 1) := by decide +kernel
theorem dX9_inOrder_95 : decode cX9_inOrder 95 = .ok (.ireturn, 1) := by decide +kernel
theorem dX9_standardise_0 : decode cX9_standardise 0 = .ok (.iconst 0, 1) := by decide +kernel
theorem dX9_standardise_1 : decode cX9_standardise 1 = .ok (.istore_n 1, 1) := by decide +kernel
theorem dX9_standardise_2 : decode cX9_standardise 2 = .ok (.iload_n 1, 1) := by decide +kernel
theorem dX9_standardise_3 : decode cX9_standardise 3 = .ok (.bipush 6, 2) := by decide +kernel
theorem dX9_standardise_5 : decode cX9_standardise 5 = .ok (.if_icmp .ge 20, 3) := by decide +kernel
theorem dX9_standardise_8 : decode cX9_standardise 8 = .ok (.aload_n 0, 1) := by decide +kernel
theorem dX9_standardise_9 : decode cX9_standardise 9 = .ok (.getfield 40, 3) := by decide +kernel
theorem dX9_standardise_12 : decode cX9_standardise 12 = .ok (.iload_n 1, 1) := by decide +kernel
theorem dX9_standardise_13 : decode cX9_standardise 13 = .ok (.aload_n 0, 1) := by decide +kernel
theorem dX9_standardise_14 : decode cX9_standardise 14 = .ok (.iload_n 1, 1) := by decide +kernel
theorem dX9_standardise_15 : decode cX9_standardise 15 = .ok (.invokevirtual 118, 3) := by decide +kernel
theorem dX9_standardise_18 : decode cX9_standardise 18 = .ok (.iastore, 1) := by decide +kernel
theorem dX9_standardise_19 : decode cX9_standardise 19 = .ok (.iinc 1 1, 3) := by decide +kernel
theorem dX9_standardise_22 : decode cX9_standardise 22 = .ok (.goto (-20), 3) := by decide +kernel
theorem dX9_standardise_25 : decode cX9_standardise 25 = .ok (.return_, 1) := by decide +kernel
theorem dX9_isNormal_0 : decode cX9_isNormal 0 = .ok (.iconst 0, 1) := by decide +kernel
theorem dX9_isNormal_1 : decode cX9_isNormal 1 = .ok (.istore_n 2, 1) := by decide +kernel
theorem dX9_isNormal_2 : decode cX9_isNormal 2 = .ok (.iload_n 2, 1) := by decide +kernel
theorem dX9_isNormal_3 : decode cX9_isNormal 3 = .ok (.bipush 6, 2) := by decide +kernel
theorem dX9_isNormal_5 : decode cX9_isNormal 5 = .ok (.if_icmp .ge 31, 3) := by decide +kernel
theorem dX9_isNormal_8 : decode cX9_isNormal 8 = .ok (.aload_n 0, 1) := by decide +kernel
theorem dX9_isNormal_9 : decode cX9_isNormal 9 = .ok (.getfield 28, 3) := by decide +kernel
theorem dX9_isNormal_12 : decode cX9_isNormal 12 = .ok (.bipush 6, 2) := by decide +kernel
theorem dX9_isNormal_14 : decode cX9_isNormal 14 = .ok (.iload_n 1, 1) := by decide +kernel
theorem dX9_isNormal_15 : decode cX9_isNormal 15 = .ok (.imul, 1) := by decide +kernel
theorem dX9_isNormal_16 : decode cX9_isNormal 16 = .ok (.iload_n 2, 1) := by decide +kernel
theorem dX9_isNormal_17 : decode cX9_isNormal 17 = .ok (.iadd, 1) := by decide +kernel
theorem dX9_isNormal_18 : decode cX9_isNormal 18 = .ok (.iaload, 1) := by decide +kernel
theorem dX9_isNormal_19 : decode cX9_isNormal 19 = .ok (.aload_n 0, 1) := by decide +kernel
theorem dX9_isNormal_20 : decode cX9_isNormal 20 = .ok (.getfield 40, 3) := by decide +kernel
theorem dX9_isNormal_23 : decode cX9_isNormal 23 = .ok (.iload_n 2, 1) := by decide +kernel
theorem dX9_isNormal_24 : decode cX9_isNormal 24 = .ok (.iaload, 1) := by decide +kernel
theorem dX9_isNormal_25 : decode cX9_isNormal 25 = .ok (.if_icmp .eq 5, 3) := by decide +kernel
theorem dX9_isNormal_28 : decode cX9_isNormal 28 = .ok (.iconst 0, 1) := by decide +kernel
theorem dX9_isNormal_29 : decode cX9_isNormal 29 = .ok (.ireturn, 1) := by decide +kernel
theorem dX9_isNormal_30 : decode cX9_isNormal 30 = .ok (.iinc 2 1, 3) := by decide +kernel
theorem dX9_isNormal_33 : decode cX9_isNormal 33 = .ok (.goto (-31), 3) := by decide +kernel
theorem dX9_isNormal_36 : decode cX9_isNormal 36 = .ok (.iconst 1, 1) := by decide +kernel
theorem dX9_isNormal_37 : decode cX9_isNormal 37 = .ok (.ireturn, 1) := by decide +kernel
theorem dX9_isStored_0 : decode cX9_isStored 0 = .ok (.aload_n 0, 1) := by decide +kernel
theorem dX9_isStored_1 : decode cX9_isStored 1 = .ok (.invokevirtual 121, 3) := by decide +kernel
theorem dX9_isStored_4 : decode cX9_isStored 4 = .ok (.iconst 0, 1) := by decide +kernel
theorem dX9_isStored_5 : decode cX9_isStored 5 = .ok (.istore_n 1, 1) := by decide +kernel
theorem dX9_isStored_6 : decode cX9_isStored 6 = .ok (.iload_n 1, 1) := by decide +kernel
theorem dX9_isStored_7 : decode cX9_isStored 7 = .ok (.aload_n 0, 1) := by decide +kernel
theorem dX9_isStored_8 : decode cX9_isStored 8 = .ok (.getfield 56, 3) := by decide +kernel
theorem dX9_isStored_11 : decode cX9_isStored 11 = .ok (.if_icmp .ge 19, 3) := by decide +kernel
theorem dX9_isStored_14 : decode cX9_isStored 14 = .ok (.aload_n 0, 1) := by decide +kernel
theorem dX9_isStored_15 : decode cX9_isStored 15 = .ok (.iload_n 1, 1) := by decide +kernel
theorem dX9_isStored_16 : decode cX9_isStored 16 = .ok (.invokevirtual 124, 3) := by decide +kernel
theorem dX9_isStored_19 : decode cX9_isStored 19 = .ok (.ifCond .eq 5, 3) := by decide +kernel
theorem dX9_isStored_22 : decode cX9_isStored 22 = .ok (.iconst 1, 1) := by decide +kernel
theorem dX9_isStored_23 : decode cX9_isStored 23 = .ok (.ireturn, 1) := by decide +kernel
theorem dX9_isStored_24 : decode cX9_isStored 24 = .ok (.iinc 1 1, 3) := by decide +kernel
theorem dX9_isStored_27 : decode cX9_isStored 27 = .ok (.goto (-21), 3) := by decide +kernel
theorem dX9_isStored_30 : decode cX9_isStored 30 = .ok (.iconst 0, 1) := by decide +kernel
theorem dX9_isStored_31 : decode cX9_isStored 31 = .ok (.ireturn, 1) := by decide +kernel
theorem dX9_store_0 : decode cX9_store 0 = .ok (.aload_n 0, 1) := by decide +kernel
theorem dX9_store_1 : decode cX9_store 1 = .ok (.invokevirtual 121, 3) := by decide +kernel
theorem dX9_store_4 : decode cX9_store 4 = .ok (.iconst 0, 1) := by decide +kernel
theorem dX9_store_5 : decode cX9_store 5 = .ok (.istore_n 2, 1) := by decide +kernel
theorem dX9_store_6 : decode cX9_store 6 = .ok (.iload_n 2, 1) := by decide +kernel
theorem dX9_store_7 : decode cX9_store 7 = .ok (.bipush 6, 2) := by decide +kernel
theorem dX9_store_9 : decode cX9_store 9 = .ok (.if_icmp .ge 41, 3) := by decide +kernel
theorem dX9_store_12 : decode cX9_store 12 = .ok (.aload_n 0, 1) := by decide +kernel
theorem dX9_store_13 : decode cX9_store 13 = .ok (.getfield 28, 3) := by decide +kernel
theorem dX9_store_16 : decode cX9_store 16 = .ok (.bipush 6, 2) := by decide +kernel
theorem dX9_store_18 : decode cX9_store 18 = .ok (.aload_n 0, 1) := by decide +kernel
theorem dX9_store_19 : decode cX9_store 19 = .ok (.getfield 56, 3) := by decide +kernel
theorem dX9_store_22 : decode cX9_store 22 = .ok (.imul, 1) := by decide +kernel
theorem dX9_store_23 : decode cX9_store 23 = .ok (.iload_n 2, 1) := by decide +kernel
theorem dX9_store_24 : decode cX9_store 24 = .ok (.iadd, 1) := by decide +kernel
theorem dX9_store_25 : decode cX9_store 25 = .ok (.aload_n 0, 1) := by decide +kernel
theorem dX9_store_26 : decode cX9_store 26 = .ok (.getfield 40, 3) := by decide +kernel
theorem dX9_store_29 : decode cX9_store 29 = .ok (.iload_n 2, 1) := by decide +kernel
theorem dX9_store_30 : decode cX9_store 30 = .ok (.iaload, 1) := by decide +kernel
theorem dX9_store_31 : decode cX9_store 31 = .ok (.iastore, 1) := by decide +kernel
theorem dX9_store_32 : decode cX9_store 32 = .ok (.aload_n 0, 1) := by decide +kernel
theorem dX9_store_33 : decode cX9_store 33 = .ok (.getfield 34, 3) := by decide +kernel
theorem dX9_store_36 : decode cX9_store 36 = .ok (.iload_n 2, 1) := by decide +kernel
theorem dX9_store_37 : decode cX9_store 37 = .ok (.aload_n 0, 1) := by decide +kernel
theorem dX9_store_38 : decode cX9_store 38 = .ok (.getfield 40, 3) := by decide +kernel
theorem dX9_store_41 : decode cX9_store 41 = .ok (.iload_n 2, 1) := by decide +kernel
theorem dX9_store_42 : decode cX9_store 42 = .ok (.iaload, 1) := by decide +kernel
theorem dX9_store_43 : decode cX9_store 43 = .ok (.iastore, 1) := by decide +kernel
theorem dX9_store_44 : decode cX9_store 44 = .ok (.iinc 2 1, 3) := by decide +kernel
theorem dX9_store_47 : decode cX9_store 47 = .ok (.goto (-41), 3) := by decide +kernel
theorem dX9_store_50 : decode cX9_store 50 = .ok (.aload_n 0, 1) := by decide +kernel
theorem dX9_store_51 : decode cX9_store 51 = .ok (.getfield 31, 3) := by decide +kernel
theorem dX9_store_54 : decode cX9_store 54 = .ok (.aload_n 0, 1) := by decide +kernel
theorem dX9_store_55 : decode cX9_store 55 = .ok (.getfield 56, 3) := by decide +kernel
theorem dX9_store_58 : decode cX9_store 58 = .ok (.iload_n 1, 1) := by decide +kernel
theorem dX9_store_59 : decode cX9_store 59 = .ok (.iastore, 1) := by decide +kernel
theorem dX9_store_60 : decode cX9_store 60 = .ok (.aload_n 0, 1) := by decide +kernel
theorem dX9_store_61 : decode cX9_store 61 = .ok (.invokevirtual 127, 3) := by decide +kernel
theorem dX9_store_64 : decode cX9_store 64 = .ok (.ifCond .ne 11, 3) := by decide +kernel
theorem dX9_store_67 : decode cX9_store 67 = .ok (.aload_n 0, 1) := by decide +kernel
theorem dX9_store_68 : decode cX9_store 68 = .ok (.aload_n 0, 1) := by decide +kernel
theorem dX9_store_69 : decode cX9_store 69 = .ok (.getfield 56, 3) := by decide +kernel
theorem dX9_store_72 : decode cX9_store 72 = .ok (.putfield 46, 3) := by decide +kernel
theorem dX9_store_75 : decode cX9_store 75 = .ok (.aload_n 0, 1) := by decide +kernel
theorem dX9_store_76 : decode cX9_store 76 = .ok (.dup, 1) := by decide +kernel
theorem dX9_store_77 : decode cX9_store 77 = .ok (.getfield 56, 3) := by decide +kernel
theorem dX9_store_80 : decode cX9_store 80 = .ok (.iconst 1, 1) := by decide +kernel
theorem dX9_store_81 : decode cX9_store 81 = .ok (.iadd, 1) := by decide +kernel
theorem dX9_store_82 : decode cX9_store 82 = .ok (.putfield 56, 3) := by decide +kernel
theorem dX9_store_85 : decode cX9_store 85 = .ok (.return_, 1) := by decide +kernel
theorem dX9_seal_0 : decode cX9_seal 0 = .ok (.aload_n 0, 1) := by decide +kernel
theorem dX9_seal_1 : decode cX9_seal 1 = .ok (.getfield 62, 3) := by decide +kernel
theorem dX9_seal_4 : decode cX9_seal 4 = .ok (.ifCond .eq 6, 3) := by decide +kernel
theorem dX9_seal_7 : decode cX9_seal 7 = .ok (.bipush (-2), 2) := by decide +kernel
theorem dX9_seal_9 : decode cX9_seal 9 = .ok (.ireturn, 1) := by decide +kernel
theorem dX9_seal_10 : decode cX9_seal 10 = .ok (.iconst 0, 1) := by decide +kernel
theorem dX9_seal_11 : decode cX9_seal 11 = .ok (.istore_n 1, 1) := by decide +kernel
theorem dX9_seal_12 : decode cX9_seal 12 = .ok (.iload_n 1, 1) := by decide +kernel
theorem dX9_seal_13 : decode cX9_seal 13 = .ok (.aload_n 0, 1) := by decide +kernel
theorem dX9_seal_14 : decode cX9_seal 14 = .ok (.getfield 50, 3) := by decide +kernel
theorem dX9_seal_17 : decode cX9_seal 17 = .ok (.if_icmp .ge 19, 3) := by decide +kernel
theorem dX9_seal_20 : decode cX9_seal 20 = .ok (.aload_n 0, 1) := by decide +kernel
theorem dX9_seal_21 : decode cX9_seal 21 = .ok (.iload_n 1, 1) := by decide +kernel
theorem dX9_seal_22 : decode cX9_seal 22 = .ok (.invokevirtual 131, 3) := by decide +kernel
theorem dX9_seal_25 : decode cX9_seal 25 = .ok (.ifCond .ne 5, 3) := by decide +kernel
theorem dX9_seal_28 : decode cX9_seal 28 = .ok (.iconst 1, 1) := by decide +kernel
theorem dX9_seal_29 : decode cX9_seal 29 = .ok (.ireturn, 1) := by decide +kernel
theorem dX9_seal_30 : decode cX9_seal 30 = .ok (.iinc 1 1, 3) := by decide +kernel
theorem dX9_seal_33 : decode cX9_seal 33 = .ok (.goto (-21), 3) := by decide +kernel
theorem dX9_seal_36 : decode cX9_seal 36 = .ok (.aload_n 0, 1) := by decide +kernel
theorem dX9_seal_37 : decode cX9_seal 37 = .ok (.invokevirtual 134, 3) := by decide +kernel
theorem dX9_seal_40 : decode cX9_seal 40 = .ok (.ifCond .ne 5, 3) := by decide +kernel
theorem dX9_seal_43 : decode cX9_seal 43 = .ok (.iconst 2, 1) := by decide +kernel
theorem dX9_seal_44 : decode cX9_seal 44 = .ok (.ireturn, 1) := by decide +kernel
theorem dX9_seal_45 : decode cX9_seal 45 = .ok (.aload_n 0, 1) := by decide +kernel
theorem dX9_seal_46 : decode cX9_seal 46 = .ok (.invokevirtual 137, 3) := by decide +kernel
theorem dX9_seal_49 : decode cX9_seal 49 = .ok (.ifCond .ne 5, 3) := by decide +kernel
theorem dX9_seal_52 : decode cX9_seal 52 = .ok (.iconst 3, 1) := by decide +kernel
theorem dX9_seal_53 : decode cX9_seal 53 = .ok (.ireturn, 1) := by decide +kernel
theorem dX9_seal_54 : decode cX9_seal 54 = .ok (.aload_n 0, 1) := by decide +kernel
theorem dX9_seal_55 : decode cX9_seal 55 = .ok (.iconst 1, 1) := by decide +kernel
theorem dX9_seal_56 : decode cX9_seal 56 = .ok (.putfield 62, 3) := by decide +kernel
theorem dX9_seal_59 : decode cX9_seal 59 = .ok (.iconst 0, 1) := by decide +kernel
theorem dX9_seal_60 : decode cX9_seal 60 = .ok (.istore_n 1, 1) := by decide +kernel
theorem dX9_seal_61 : decode cX9_seal 61 = .ok (.iload_n 1, 1) := by decide +kernel
theorem dX9_seal_62 : decode cX9_seal 62 = .ok (.bipush 6, 2) := by decide +kernel
theorem dX9_seal_64 : decode cX9_seal 64 = .ok (.if_icmp .ge 21, 3) := by decide +kernel
theorem dX9_seal_67 : decode cX9_seal 67 = .ok (.aload_n 0, 1) := by decide +kernel
theorem dX9_seal_68 : decode cX9_seal 68 = .ok (.getfield 37, 3) := by decide +kernel
theorem dX9_seal_71 : decode cX9_seal 71 = .ok (.iload_n 1, 1) := by decide +kernel
theorem dX9_seal_72 : decode cX9_seal 72 = .ok (.aload_n 0, 1) := by decide +kernel
theorem dX9_seal_73 : decode cX9_seal 73 = .ok (.getfield 7, 3) := by decide +kernel
theorem dX9_seal_76 : decode cX9_seal 76 = .ok (.iload_n 1, 1) := by decide +kernel
theorem dX9_seal_77 : decode cX9_seal 77 = .ok (.iaload, 1) := by decide +kernel
theorem dX9_seal_78 : decode cX9_seal 78 = .ok (.iastore, 1) := by decide +kernel
theorem dX9_seal_79 : decode cX9_seal 79 = .ok (.iinc 1 1, 3) := by decide +kernel
theorem dX9_seal_82 : decode cX9_seal 82 = .ok (.goto (-21), 3) := by decide +kernel
theorem dX9_seal_85 : decode cX9_seal 85 = .ok (.aload_n 0, 1) := by decide +kernel
theorem dX9_seal_86 : decode cX9_seal 86 = .ok (.iconst (-1), 1) := by decide +kernel
theorem dX9_seal_87 : decode cX9_seal 87 = .ok (.invokevirtual 140, 3) := by decide +kernel
theorem dX9_seal_90 : decode cX9_seal 90 = .ok (.iconst 0, 1) := by decide +kernel
theorem dX9_seal_91 : decode cX9_seal 91 = .ok (.ireturn, 1) := by decide +kernel
theorem dX9_expand_0 : decode cX9_expand 0 = .ok (.iconst 0, 1) := by decide +kernel
theorem dX9_expand_1 : decode cX9_expand 1 = .ok (.istore_n 1, 1) := by decide +kernel
theorem dX9_expand_2 : decode cX9_expand 2 = .ok (.iload_n 1, 1) := by decide +kernel
theorem dX9_expand_3 : decode cX9_expand 3 = .ok (.aload_n 0, 1) := by decide +kernel
theorem dX9_expand_4 : decode cX9_expand 4 = .ok (.getfield 50, 3) := by decide +kernel
theorem dX9_expand_7 : decode cX9_expand 7 = .ok (.if_icmp .ge 89, 3) := by decide +kernel
theorem dX9_expand_10 : decode cX9_expand 10 = .ok (.aload_n 0, 1) := by decide +kernel
theorem dX9_expand_11 : decode cX9_expand 11 = .ok (.getfield 46, 3) := by decide +kernel
theorem dX9_expand_14 : decode cX9_expand 14 = .ok (.ifCond .ge 82, 3) := by decide +kernel
theorem dX9_expand_17 : decode cX9_expand 17 = .ok (.iconst 0, 1) := by decide +kernel
theorem dX9_expand_18 : decode cX9_expand 18 = .ok (.istore_n 2, 1) := by decide +kernel
theorem dX9_expand_19 : decode cX9_expand 19 = .ok (.iload_n 2, 1) := by decide +kernel
theorem dX9_expand_20 : decode cX9_expand 20 = .ok (.bipush 6, 2) := by decide +kernel
theorem dX9_expand_22 : decode cX9_expand 22 = .ok (.if_icmp .ge 29, 3) := by decide +kernel
theorem dX9_expand_25 : decode cX9_expand 25 = .ok (.aload_n 0, 1) := by decide +kernel
theorem dX9_expand_26 : decode cX9_expand 26 = .ok (.getfield 34, 3) := by decide +kernel
theorem dX9_expand_29 : decode cX9_expand 29 = .ok (.iload_n 2, 1) := by decide +kernel
theorem dX9_expand_30 : decode cX9_expand 30 = .ok (.aload_n 0, 1) := by decide +kernel
theorem dX9_expand_31 : decode cX9_expand 31 = .ok (.getfield 28, 3) := by decide +kernel
theorem dX9_expand_34 : decode cX9_expand 34 = .ok (.bipush 6, 2) := by decide +kernel
theorem dX9_expand_36 : decode cX9_expand 36 = .ok (.aload_n 0, 1) := by decide +kernel
theorem dX9_expand_37 : decode cX9_expand 37 = .ok (.getfield 59, 3) := by decide +kernel
theorem dX9_expand_40 : decode cX9_expand 40 = .ok (.imul, 1) := by decide +kernel
theorem dX9_expand_41 : decode cX9_expand 41 = .ok (.iload_n 2, 1) := by decide +kernel
theorem dX9_expand_42 : decode cX9_expand 42 = .ok (.iadd, 1) := by decide +kernel
theorem dX9_expand_43 : decode cX9_expand 43 = .ok (.iaload, 1) := by decide +kernel
theorem dX9_expand_44 : decode cX9_expand 44 = .ok (.iastore, 1) := by decide +kernel
theorem dX9_expand_45 : decode cX9_expand 45 = .ok (.iinc 2 1, 3) := by decide +kernel
theorem dX9_expand_48 : decode cX9_expand 48 = .ok (.goto (-29), 3) := by decide +kernel
theorem dX9_expand_51 : decode cX9_expand 51 = .ok (.aload_n 0, 1) := by decide +kernel
theorem dX9_expand_52 : decode cX9_expand 52 = .ok (.iload_n 1, 1) := by decide +kernel
theorem dX9_expand_53 : decode cX9_expand 53 = .ok (.invokevirtual 144, 3) := by decide +kernel
theorem dX9_expand_56 : decode cX9_expand 56 = .ok (.ifCond .eq 34, 3) := by decide +kernel
theorem dX9_expand_59 : decode cX9_expand 59 = .ok (.aload_n 0, 1) := by decide +kernel
theorem dX9_expand_60 : decode cX9_expand 60 = .ok (.invokevirtual 147, 3) := by decide +kernel
theorem dX9_expand_63 : decode cX9_expand 63 = .ok (.ifCond .ne 27, 3) := by decide +kernel
theorem dX9_expand_66 : decode cX9_expand 66 = .ok (.aload_n 0, 1) := by decide +kernel
theorem dX9_expand_67 : decode cX9_expand 67 = .ok (.getfield 56, 3) := by decide +kernel
theorem dX9_expand_70 : decode cX9_expand 70 = .ok (.sipush 400, 3) := by decide +kernel
theorem dX9_expand_73 : decode cX9_expand 73 = .ok (.if_icmp .ne 9, 3) := by decide +kernel
theorem dX9_expand_76 : decode cX9_expand 76 = .ok (.aload_n 0, 1) := by decide +kernel
theorem dX9_expand_77 : decode cX9_expand 77 = .ok (.iconst 1, 1) := by decide +kernel
theorem dX9_expand_78 : decode cX9_expand 78 = .ok (.putfield 66, 3) := by decide +kernel
theorem dX9_expand_81 : decode cX9_expand 81 = .ok (.return_, 1) := by decide +kernel
theorem dX9_expand_82 : decode cX9_expand 82 = .ok (.aload_n 0, 1) := by decide +kernel
theorem dX9_expand_83 : decode cX9_expand 83 = .ok (.aload_n 0, 1) := by decide +kernel
theorem dX9_expand_84 : decode cX9_expand 84 = .ok (.getfield 59, 3) := by decide +kernel
theorem dX9_expand_87 : decode cX9_expand 87 = .ok (.invokevirtual 140, 3) := by decide +kernel
theorem dX9_expand_90 : decode cX9_expand 90 = .ok (.iinc 1 1, 3) := by decide +kernel
theorem dX9_expand_93 : decode cX9_expand 93 = .ok (.goto (-91), 3) := by decide +kernel
theorem dX9_expand_96 : decode cX9_expand 96 = .ok (.aload_n 0, 1) := by decide +kernel
theorem dX9_expand_97 : decode cX9_expand 97 = .ok (.dup, 1) := by decide +kernel
theorem dX9_expand_98 : decode cX9_expand 98 = .ok (.getfield 59, 3) := by decide +kernel
theorem dX9_expand_101 : decode cX9_expand 101 = .ok (.iconst 1, 1) := by decide +kernel
theorem dX9_expand_102 : decode cX9_expand 102 = .ok (.iadd, 1) := by decide +kernel
theorem dX9_expand_103 : decode cX9_expand 103 = .ok (.putfield 59, 3) := by decide +kernel
theorem dX9_expand_106 : decode cX9_expand 106 = .ok (.return_, 1) := by decide +kernel
theorem dX9_explore_0 : decode cX9_explore 0 = .ok (.aload_n 0, 1) := by decide +kernel
theorem dX9_explore_1 : decode cX9_explore 1 = .ok (.getfield 62, 3) := by decide +kernel
theorem dX9_explore_4 : decode cX9_explore 4 = .ok (.ifCond .ne 6, 3) := by decide +kernel
theorem dX9_explore_7 : decode cX9_explore 7 = .ok (.bipush (-2), 2) := by decide +kernel
theorem dX9_explore_9 : decode cX9_explore 9 = .ok (.ireturn, 1) := by decide +kernel
theorem dX9_explore_10 : decode cX9_explore 10 = .ok (.iconst 0, 1) := by decide +kernel
theorem dX9_explore_11 : decode cX9_explore 11 = .ok (.istore_n 2, 1) := by decide +kernel
theorem dX9_explore_12 : decode cX9_explore 12 = .ok (.iload_n 2, 1) := by decide +kernel
theorem dX9_explore_13 : decode cX9_explore 13 = .ok (.iload_n 1, 1) := by decide +kernel
theorem dX9_explore_14 : decode cX9_explore 14 = .ok (.if_icmp .ge 38, 3) := by decide +kernel
theorem dX9_explore_17 : decode cX9_explore 17 = .ok (.aload_n 0, 1) := by decide +kernel
theorem dX9_explore_18 : decode cX9_explore 18 = .ok (.getfield 66, 3) := by decide +kernel
theorem dX9_explore_21 : decode cX9_explore 21 = .ok (.ifCond .ne 31, 3) := by decide +kernel
theorem dX9_explore_24 : decode cX9_explore 24 = .ok (.aload_n 0, 1) := by decide +kernel
theorem dX9_explore_25 : decode cX9_explore 25 = .ok (.getfield 46, 3) := by decide +kernel
theorem dX9_explore_28 : decode cX9_explore 28 = .ok (.ifCond .ge 24, 3) := by decide +kernel
theorem dX9_explore_31 : decode cX9_explore 31 = .ok (.aload_n 0, 1) := by decide +kernel
theorem dX9_explore_32 : decode cX9_explore 32 = .ok (.getfield 59, 3) := by decide +kernel
theorem dX9_explore_35 : decode cX9_explore 35 = .ok (.aload_n 0, 1) := by decide +kernel
theorem dX9_explore_36 : decode cX9_explore 36 = .ok (.getfield 56, 3) := by decide +kernel
theorem dX9_explore_39 : decode cX9_explore 39 = .ok (.if_icmp .ge 13, 3) := by decide +kernel
theorem dX9_explore_42 : decode cX9_explore 42 = .ok (.aload_n 0, 1) := by decide +kernel
theorem dX9_explore_43 : decode cX9_explore 43 = .ok (.invokevirtual 150, 3) := by decide +kernel
theorem dX9_explore_46 : decode cX9_explore 46 = .ok (.iinc 2 1, 3) := by decide +kernel
theorem dX9_explore_49 : decode cX9_explore 49 = .ok (.goto (-37), 3) := by decide +kernel
theorem dX9_explore_52 : decode cX9_explore 52 = .ok (.aload_n 0, 1) := by decide +kernel
theorem dX9_explore_53 : decode cX9_explore 53 = .ok (.getfield 66, 3) := by decide +kernel
theorem dX9_explore_56 : decode cX9_explore 56 = .ok (.ifCond .eq 8, 3) := by decide +kernel
theorem dX9_explore_59 : decode cX9_explore 59 = .ok (.bipush (-5), 2) := by decide +kernel
theorem dX9_explore_61 : decode cX9_explore 61 = .ok (.goto 26, 3) := by decide +kernel
theorem dX9_explore_64 : decode cX9_explore 64 = .ok (.aload_n 0, 1) := by decide +kernel
theorem dX9_explore_65 : decode cX9_explore 65 = .ok (.getfield 46, 3) := by decide +kernel
theorem dX9_explore_68 : decode cX9_explore 68 = .ok (.ifCond .ge 14, 3) := by decide +kernel
theorem dX9_explore_71 : decode cX9_explore 71 = .ok (.aload_n 0, 1) := by decide +kernel
theorem dX9_explore_72 : decode cX9_explore 72 = .ok (.getfield 59, 3) := by decide +kernel
theorem dX9_explore_75 : decode cX9_explore 75 = .ok (.aload_n 0, 1) := by decide +kernel
theorem dX9_explore_76 : decode cX9_explore 76 = .ok (.getfield 56, 3) := by decide +kernel
theorem dX9_explore_79 : decode cX9_explore 79 = .ok (.if_icmp .ne 7, 3) := by decide +kernel
theorem dX9_explore_82 : decode cX9_explore 82 = .ok (.iconst 0, 1) := by decide +kernel
theorem dX9_explore_83 : decode cX9_explore 83 = .ok (.goto 4, 3) := by decide +kernel
theorem dX9_explore_86 : decode cX9_explore 86 = .ok (.iconst 1, 1) := by decide +kernel
theorem dX9_explore_87 : decode cX9_explore 87 = .ok (.ireturn, 1) := by decide +kernel
theorem dX9_verdict_0 : decode cX9_verdict 0 = .ok (.aload_n 0, 1) := by decide +kernel
theorem dX9_verdict_1 : decode cX9_verdict 1 = .ok (.getfield 46, 3) := by decide +kernel
theorem dX9_verdict_4 : decode cX9_verdict 4 = .ok (.ifCond .lt 7, 3) := by decide +kernel
theorem dX9_verdict_7 : decode cX9_verdict 7 = .ok (.iconst 2, 1) := by decide +kernel
theorem dX9_verdict_8 : decode cX9_verdict 8 = .ok (.goto 33, 3) := by decide +kernel
theorem dX9_verdict_11 : decode cX9_verdict 11 = .ok (.aload_n 0, 1) := by decide +kernel
theorem dX9_verdict_12 : decode cX9_verdict 12 = .ok (.getfield 62, 3) := by decide +kernel
theorem dX9_verdict_15 : decode cX9_verdict 15 = .ok (.ifCond .eq 25, 3) := by decide +kernel
theorem dX9_verdict_18 : decode cX9_verdict 18 = .ok (.aload_n 0, 1) := by decide +kernel
theorem dX9_verdict_19 : decode cX9_verdict 19 = .ok (.getfield 66, 3) := by decide +kernel
theorem dX9_verdict_22 : decode cX9_verdict 22 = .ok (.ifCond .ne 18, 3) := by decide +kernel
theorem dX9_verdict_25 : decode cX9_verdict 25 = .ok (.aload_n 0, 1) := by decide +kernel
theorem dX9_verdict_26 : decode cX9_verdict 26 = .ok (.getfield 59, 3) := by decide +kernel
theorem dX9_verdict_29 : decode cX9_verdict 29 = .ok (.aload_n 0, 1) := by decide +kernel
theorem dX9_verdict_30 : decode cX9_verdict 30 = .ok (.getfield 56, 3) := by decide +kernel
theorem dX9_verdict_33 : decode cX9_verdict 33 = .ok (.if_icmp .ne 7, 3) := by decide +kernel
theorem dX9_verdict_36 : decode cX9_verdict 36 = .ok (.iconst 1, 1) := by decide +kernel
theorem dX9_verdict_37 : decode cX9_verdict 37 = .ok (.goto 4, 3) := by decide +kernel
theorem dX9_verdict_40 : decode cX9_verdict 40 = .ok (.iconst 0, 1) := by decide +kernel
theorem dX9_verdict_41 : decode cX9_verdict 41 = .ok (.ireturn, 1) := by decide +kernel
theorem dX9_stateCount_0 : decode cX9_stateCount 0 = .ok (.aload_n 0, 1) := by decide +kernel
theorem dX9_stateCount_1 : decode cX9_stateCount 1 = .ok (.getfield 56, 3) := by decide +kernel
theorem dX9_stateCount_4 : decode cX9_stateCount 4 = .ok (.ireturn, 1) := by decide +kernel
theorem dX9_traceLen_0 : decode cX9_traceLen 0 = .ok (.iconst (-1), 1) := by decide +kernel
theorem dX9_traceLen_1 : decode cX9_traceLen 1 = .ok (.istore_n 1, 1) := by decide +kernel
theorem dX9_traceLen_2 : decode cX9_traceLen 2 = .ok (.aload_n 0, 1) := by decide +kernel
theorem dX9_traceLen_3 : decode cX9_traceLen 3 = .ok (.getfield 46, 3) := by decide +kernel
theorem dX9_traceLen_6 : decode cX9_traceLen 6 = .ok (.istore_n 2, 1) := by decide +kernel
theorem dX9_traceLen_7 : decode cX9_traceLen 7 = .ok (.iconst 0, 1) := by decide +kernel
theorem dX9_traceLen_8 : decode cX9_traceLen 8 = .ok (.istore_n 3, 1) := by decide +kernel
theorem dX9_traceLen_9 : decode cX9_traceLen 9 = .ok (.iload_n 3, 1) := by decide +kernel
theorem dX9_traceLen_10 : decode cX9_traceLen 10 = .ok (.sipush 400, 3) := by decide +kernel
theorem dX9_traceLen_13 : decode cX9_traceLen 13 = .ok (.if_icmp .ge 23, 3) := by decide +kernel
theorem dX9_traceLen_16 : decode cX9_traceLen 16 = .ok (.iload_n 2, 1) := by decide +kernel
theorem dX9_traceLen_17 : decode cX9_traceLen 17 = .ok (.ifCond .lt 19, 3) := by decide +kernel
theorem dX9_traceLen_20 : decode cX9_traceLen 20 = .ok (.iinc 1 1, 3) := by decide +kernel
theorem dX9_traceLen_23 : decode cX9_traceLen 23 = .ok (.aload_n 0, 1) := by decide +kernel
theorem dX9_traceLen_24 : decode cX9_traceLen 24 = .ok (.getfield 31, 3) := by decide +kernel
theorem dX9_traceLen_27 : decode cX9_traceLen 27 = .ok (.iload_n 2, 1) := by decide +kernel
theorem dX9_traceLen_28 : decode cX9_traceLen 28 = .ok (.iaload, 1) := by decide +kernel
theorem dX9_traceLen_29 : decode cX9_traceLen 29 = .ok (.istore_n 2, 1) := by decide +kernel
theorem dX9_traceLen_30 : decode cX9_traceLen 30 = .ok (.iinc 3 1, 3) := by decide +kernel
theorem dX9_traceLen_33 : decode cX9_traceLen 33 = .ok (.goto (-24), 3) := by decide +kernel
theorem dX9_traceLen_36 : decode cX9_traceLen 36 = .ok (.iload_n 1, 1) := by decide +kernel
theorem dX9_traceLen_37 : decode cX9_traceLen 37 = .ok (.ireturn, 1) := by decide +kernel
theorem dX9_onWay_0 : decode cX9_onWay 0 = .ok (.aload_n 0, 1) := by decide +kernel
theorem dX9_onWay_1 : decode cX9_onWay 1 = .ok (.getfield 46, 3) := by decide +kernel
theorem dX9_onWay_4 : decode cX9_onWay 4 = .ok (.istore_n 2, 1) := by decide +kernel
theorem dX9_onWay_5 : decode cX9_onWay 5 = .ok (.aload_n 0, 1) := by decide +kernel
theorem dX9_onWay_6 : decode cX9_onWay 6 = .ok (.invokevirtual 153, 3) := by decide +kernel
theorem dX9_onWay_9 : decode cX9_onWay 9 = .ok (.istore_n 3, 1) := by decide +kernel
theorem dX9_onWay_10 : decode cX9_onWay 10 = .ok (.iload_n 3, 1) := by decide +kernel
theorem dX9_onWay_11 : decode cX9_onWay 11 = .ok (.iload_n 1, 1) := by decide +kernel
theorem dX9_onWay_12 : decode cX9_onWay 12 = .ok (.if_icmp .le 16, 3) := by decide +kernel
theorem dX9_onWay_15 : decode cX9_onWay 15 = .ok (.aload_n 0, 1) := by decide +kernel
theorem dX9_onWay_16 : decode cX9_onWay 16 = .ok (.getfield 31, 3) := by decide +kernel
theorem dX9_onWay_19 : decode cX9_onWay 19 = .ok (.iload_n 2, 1) := by decide +kernel
theorem dX9_onWay_20 : decode cX9_onWay 20 = .ok (.iaload, 1) := by decide +kernel
theorem dX9_onWay_21 : decode cX9_onWay 21 = .ok (.istore_n 2, 1) := by decide +kernel
theorem dX9_onWay_22 : decode cX9_onWay 22 = .ok (.iinc 3 (-1), 3) := by decide +kernel
theorem dX9_onWay_25 : decode cX9_onWay 25 = .ok (.goto (-15), 3) := by decide +kernel
theorem dX9_onWay_28 : decode cX9_onWay 28 = .ok (.iload_n 2, 1) := by decide +kernel
theorem dX9_onWay_29 : decode cX9_onWay 29 = .ok (.ireturn, 1) := by decide +kernel
theorem dX9_fired_0 : decode cX9_fired 0 = .ok (.aload_n 0, 1) := by decide +kernel
theorem dX9_fired_1 : decode cX9_fired 1 = .ok (.iload_n 1, 1) := by decide +kernel
theorem dX9_fired_2 : decode cX9_fired 2 = .ok (.iconst 1, 1) := by decide +kernel
theorem dX9_fired_3 : decode cX9_fired 3 = .ok (.iadd, 1) := by decide +kernel
theorem dX9_fired_4 : decode cX9_fired 4 = .ok (.invokevirtual 157, 3) := by decide +kernel
theorem dX9_fired_7 : decode cX9_fired 7 = .ok (.istore_n 2, 1) := by decide +kernel
theorem dX9_fired_8 : decode cX9_fired 8 = .ok (.iconst 0, 1) := by decide +kernel
theorem dX9_fired_9 : decode cX9_fired 9 = .ok (.istore_n 3, 1) := by decide +kernel
theorem dX9_fired_10 : decode cX9_fired 10 = .ok (.iload_n 3, 1) := by decide +kernel
theorem dX9_fired_11 : decode cX9_fired 11 = .ok (.aload_n 0, 1) := by decide +kernel
theorem dX9_fired_12 : decode cX9_fired 12 = .ok (.getfield 50, 3) := by decide +kernel
theorem dX9_fired_15 : decode cX9_fired 15 = .ok (.if_icmp .ge 31, 3) := by decide +kernel
theorem dX9_fired_18 : decode cX9_fired 18 = .ok (.aload_n 0, 1) := by decide +kernel
theorem dX9_fired_19 : decode cX9_fired 19 = .ok (.iload_n 3, 1) := by decide +kernel
theorem dX9_fired_20 : decode cX9_fired 20 = .ok (.invokevirtual 144, 3) := by decide +kernel
theorem dX9_fired_23 : decode cX9_fired 23 = .ok (.ifCond .eq 17, 3) := by decide +kernel
theorem dX9_fired_26 : decode cX9_fired 26 = .ok (.aload_n 0, 1) := by decide +kernel
theorem dX9_fired_27 : decode cX9_fired 27 = .ok (.invokevirtual 121, 3) := by decide +kernel
theorem dX9_fired_30 : decode cX9_fired 30 = .ok (.aload_n 0, 1) := by decide +kernel
theorem dX9_fired_31 : decode cX9_fired 31 = .ok (.iload_n 2, 1) := by decide +kernel
theorem dX9_fired_32 : decode cX9_fired 32 = .ok (.invokevirtual 124, 3) := by decide +kernel
theorem dX9_fired_35 : decode cX9_fired 35 = .ok (.ifCond .eq 5, 3) := by decide +kernel
theorem dX9_fired_38 : decode cX9_fired 38 = .ok (.iload_n 3, 1) := by decide +kernel
theorem dX9_fired_39 : decode cX9_fired 39 = .ok (.ireturn, 1) := by decide +kernel
theorem dX9_fired_40 : decode cX9_fired 40 = .ok (.iinc 3 1, 3) := by decide +kernel
theorem dX9_fired_43 : decode cX9_fired 43 = .ok (.goto (-33), 3) := by decide +kernel
theorem dX9_fired_46 : decode cX9_fired 46 = .ok (.iconst (-1), 1) := by decide +kernel
theorem dX9_fired_47 : decode cX9_fired 47 = .ok (.ireturn, 1) := by decide +kernel
theorem dX9_follow_0 : decode cX9_follow 0 = .ok (.iconst 0, 1) := by decide +kernel
theorem dX9_follow_1 : decode cX9_follow 1 = .ok (.istore_n 2, 1) := by decide +kernel
theorem dX9_follow_2 : decode cX9_follow 2 = .ok (.iload_n 2, 1) := by decide +kernel
theorem dX9_follow_3 : decode cX9_follow 3 = .ok (.bipush 6, 2) := by decide +kernel
theorem dX9_follow_5 : decode cX9_follow 5 = .ok (.if_icmp .ge 21, 3) := by decide +kernel
theorem dX9_follow_8 : decode cX9_follow 8 = .ok (.aload_n 0, 1) := by decide +kernel
theorem dX9_follow_9 : decode cX9_follow 9 = .ok (.getfield 34, 3) := by decide +kernel
theorem dX9_follow_12 : decode cX9_follow 12 = .ok (.iload_n 2, 1) := by decide +kernel
theorem dX9_follow_13 : decode cX9_follow 13 = .ok (.aload_n 0, 1) := by decide +kernel
theorem dX9_follow_14 : decode cX9_follow 14 = .ok (.getfield 7, 3) := by decide +kernel
theorem dX9_follow_17 : decode cX9_follow 17 = .ok (.iload_n 2, 1) := by decide +kernel
theorem dX9_follow_18 : decode cX9_follow 18 = .ok (.iaload, 1) := by decide +kernel
theorem dX9_follow_19 : decode cX9_follow 19 = .ok (.iastore, 1) := by decide +kernel
theorem dX9_follow_20 : decode cX9_follow 20 = .ok (.iinc 2 1, 3) := by decide +kernel
theorem dX9_follow_23 : decode cX9_follow 23 = .ok (.goto (-21), 3) := by decide +kernel
theorem dX9_follow_26 : decode cX9_follow 26 = .ok (.iconst 0, 1) := by decide +kernel
theorem dX9_follow_27 : decode cX9_follow 27 = .ok (.istore_n 2, 1) := by decide +kernel
theorem dX9_follow_28 : decode cX9_follow 28 = .ok (.iload_n 2, 1) := by decide +kernel
theorem dX9_follow_29 : decode cX9_follow 29 = .ok (.iload_n 1, 1) := by decide +kernel
theorem dX9_follow_30 : decode cX9_follow 30 = .ok (.if_icmp .ge 45, 3) := by decide +kernel
theorem dX9_follow_33 : decode cX9_follow 33 = .ok (.aload_n 0, 1) := by decide +kernel
theorem dX9_follow_34 : decode cX9_follow 34 = .ok (.iload_n 2, 1) := by decide +kernel
theorem dX9_follow_35 : decode cX9_follow 35 = .ok (.invokevirtual 160, 3) := by decide +kernel
theorem dX9_follow_38 : decode cX9_follow 38 = .ok (.istore_n 3, 1) := by decide +kernel
theorem dX9_follow_39 : decode cX9_follow 39 = .ok (.iconst 0, 1) := by decide +kernel
theorem dX9_follow_40 : decode cX9_follow 40 = .ok (.istore 4, 2) := by decide +kernel
theorem dX9_follow_42 : decode cX9_follow 42 = .ok (.iload 4, 2) := by decide +kernel
theorem dX9_follow_44 : decode cX9_follow 44 = .ok (.bipush 6, 2) := by decide +kernel
theorem dX9_follow_46 : decode cX9_follow 46 = .ok (.if_icmp .ge 23, 3) := by decide +kernel
theorem dX9_follow_49 : decode cX9_follow 49 = .ok (.aload_n 0, 1) := by decide +kernel
theorem dX9_follow_50 : decode cX9_follow 50 = .ok (.getfield 34, 3) := by decide +kernel
theorem dX9_follow_53 : decode cX9_follow 53 = .ok (.iload 4, 2) := by decide +kernel
theorem dX9_follow_55 : decode cX9_follow 55 = .ok (.aload_n 0, 1) := by decide +kernel
theorem dX9_follow_56 : decode cX9_follow 56 = .ok (.getfield 37, 3) := by decide +kernel
theorem dX9_follow_59 : decode cX9_follow 59 = .ok (.iload 4, 2) := by decide +kernel
theorem dX9_follow_61 : decode cX9_follow 61 = .ok (.iaload, 1) := by decide +kernel
theorem dX9_follow_62 : decode cX9_follow 62 = .ok (.iastore, 1) := by decide +kernel
theorem dX9_follow_63 : decode cX9_follow 63 = .ok (.iinc 4 1, 3) := by decide +kernel
theorem dX9_follow_66 : decode cX9_follow 66 = .ok (.goto (-24), 3) := by decide +kernel
theorem dX9_follow_69 : decode cX9_follow 69 = .ok (.iinc 2 1, 3) := by decide +kernel
theorem dX9_follow_72 : decode cX9_follow 72 = .ok (.goto (-44), 3) := by decide +kernel
theorem dX9_follow_75 : decode cX9_follow 75 = .ok (.return_, 1) := by decide +kernel
theorem dX9_traceRule_0 : decode cX9_traceRule 0 = .ok (.iload_n 1, 1) := by decide +kernel
theorem dX9_traceRule_1 : decode cX9_traceRule 1 = .ok (.ifCond .lt 11, 3) := by decide +kernel
theorem dX9_traceRule_4 : decode cX9_traceRule 4 = .ok (.iload_n 1, 1) := by decide +kernel
theorem dX9_traceRule_5 : decode cX9_traceRule 5 = .ok (.aload_n 0, 1) := by decide +kernel
theorem dX9_traceRule_6 : decode cX9_traceRule 6 = .ok (.invokevirtual 153, 3) := by decide +kernel
theorem dX9_traceRule_9 : decode cX9_traceRule 9 = .ok (.if_icmp .lt 5, 3) := by decide +kernel
theorem dX9_traceRule_12 : decode cX9_traceRule 12 = .ok (.iconst (-1), 1) := by decide +kernel
theorem dX9_traceRule_13 : decode cX9_traceRule 13 = .ok (.ireturn, 1) := by decide +kernel
theorem dX9_traceRule_14 : decode cX9_traceRule 14 = .ok (.aload_n 0, 1) := by decide +kernel
theorem dX9_traceRule_15 : decode cX9_traceRule 15 = .ok (.iload_n 1, 1) := by decide +kernel
theorem dX9_traceRule_16 : decode cX9_traceRule 16 = .ok (.invokevirtual 163, 3) := by decide +kernel
theorem dX9_traceRule_19 : decode cX9_traceRule 19 = .ok (.aload_n 0, 1) := by decide +kernel
theorem dX9_traceRule_20 : decode cX9_traceRule 20 = .ok (.iload_n 1, 1) := by decide +kernel
theorem dX9_traceRule_21 : decode cX9_traceRule 21 = .ok (.invokevirtual 160, 3) := by decide +kernel
theorem dX9_traceRule_24 : decode cX9_traceRule 24 = .ok (.ireturn, 1) := by decide +kernel
theorem dX9_traceVar_0 : decode cX9_traceVar 0 = .ok (.iload_n 1, 1) := by decide +kernel
theorem dX9_traceVar_1 : decode cX9_traceVar 1 = .ok (.ifCond .lt 18, 3) := by decide +kernel
theorem dX9_traceVar_4 : decode cX9_traceVar 4 = .ok (.iload_n 1, 1) := by decide +kernel
theorem dX9_traceVar_5 : decode cX9_traceVar 5 = .ok (.aload_n 0, 1) := by decide +kernel
theorem dX9_traceVar_6 : decode cX9_traceVar 6 = .ok (.invokevirtual 153, 3) := by decide +kernel
theorem dX9_traceVar_9 : decode cX9_traceVar 9 = .ok (.if_icmp .gt 10, 3) := by decide +kernel
theorem dX9_traceVar_12 : decode cX9_traceVar 12 = .ok (.iload_n 2, 1) := by decide +kernel
theorem dX9_traceVar_13 : decode cX9_traceVar 13 = .ok (.invokestatic 69, 3) := by decide +kernel
theorem dX9_traceVar_16 : decode cX9_traceVar 16 = .ok (.ifCond .ne 5, 3) := by decide +kernel
theorem dX9_traceVar_19 : decode cX9_traceVar 19 = .ok (.iconst 0, 1) := by decide +kernel
theorem dX9_traceVar_20 : decode cX9_traceVar 20 = .ok (.ireturn, 1) := by decide +kernel
theorem dX9_traceVar_21 : decode cX9_traceVar 21 = .ok (.aload_n 0, 1) := by decide +kernel
theorem dX9_traceVar_22 : decode cX9_traceVar 22 = .ok (.iload_n 1, 1) := by decide +kernel
theorem dX9_traceVar_23 : decode cX9_traceVar 23 = .ok (.invokevirtual 163, 3) := by decide +kernel
theorem dX9_traceVar_26 : decode cX9_traceVar 26 = .ok (.aload_n 0, 1) := by decide +kernel
theorem dX9_traceVar_27 : decode cX9_traceVar 27 = .ok (.getfield 34, 3) := by decide +kernel
theorem dX9_traceVar_30 : decode cX9_traceVar 30 = .ok (.iload_n 2, 1) := by decide +kernel
theorem dX9_traceVar_31 : decode cX9_traceVar 31 = .ok (.iaload, 1) := by decide +kernel
theorem dX9_traceVar_32 : decode cX9_traceVar 32 = .ok (.ireturn, 1) := by decide +kernel
theorem dX9_replay_0 : decode cX9_replay 0 = .ok (.aload_n 0, 1) := by decide +kernel
theorem dX9_replay_1 : decode cX9_replay 1 = .ok (.getfield 46, 3) := by decide +kernel
theorem dX9_replay_4 : decode cX9_replay 4 = .ok (.ifCond .ge 5, 3) := by decide +kernel
theorem dX9_replay_7 : decode cX9_replay 7 = .ok (.iconst 0, 1) := by decide +kernel
theorem dX9_replay_8 : decode cX9_replay 8 = .ok (.ireturn, 1) := by decide +kernel
theorem dX9_replay_9 : decode cX9_replay 9 = .ok (.aload_n 0, 1) := by decide +kernel
theorem dX9_replay_10 : decode cX9_replay 10 = .ok (.aload_n 0, 1) := by decide +kernel
theorem dX9_replay_11 : decode cX9_replay 11 = .ok (.invokevirtual 153, 3) := by decide +kernel
theorem dX9_replay_14 : decode cX9_replay 14 = .ok (.invokevirtual 163, 3) := by decide +kernel
theorem dX9_replay_17 : decode cX9_replay 17 = .ok (.aload_n 0, 1) := by decide +kernel
theorem dX9_replay_18 : decode cX9_replay 18 = .ok (.invokevirtual 127, 3) := by decide +kernel
theorem dX9_replay_21 : decode cX9_replay 21 = .ok (.ifCond .eq 7, 3) := by decide +kernel
theorem dX9_replay_24 : decode cX9_replay 24 = .ok (.iconst 0, 1) := by decide +kernel
theorem dX9_replay_25 : decode cX9_replay 25 = .ok (.goto 4, 3) := by decide +kernel
theorem dX9_replay_28 : decode cX9_replay 28 = .ok (.iconst 1, 1) := by decide +kernel
theorem dX9_replay_29 : decode cX9_replay 29 = .ok (.ireturn, 1) := by decide +kernel
theorem dX9_probeVar_0 : decode cX9_probeVar 0 = .ok (.iload_n 1, 1) := by decide +kernel
theorem dX9_probeVar_1 : decode cX9_probeVar 1 = .ok (.invokestatic 69, 3) := by decide +kernel
theorem dX9_probeVar_4 : decode cX9_probeVar 4 = .ok (.ifCond .ne 5, 3) := by decide +kernel
theorem dX9_probeVar_7 : decode cX9_probeVar 7 = .ok (.iconst (-1), 1) := by decide +kernel
theorem dX9_probeVar_8 : decode cX9_probeVar 8 = .ok (.ireturn, 1) := by decide +kernel
theorem dX9_probeVar_9 : decode cX9_probeVar 9 = .ok (.aload_n 0, 1) := by decide +kernel
theorem dX9_probeVar_10 : decode cX9_probeVar 10 = .ok (.getfield 16, 3) := by decide +kernel
theorem dX9_probeVar_13 : decode cX9_probeVar 13 = .ok (.iload_n 1, 1) := by decide +kernel
theorem dX9_probeVar_14 : decode cX9_probeVar 14 = .ok (.iload_n 2, 1) := by decide +kernel
theorem dX9_probeVar_15 : decode cX9_probeVar 15 = .ok (.iastore, 1) := by decide +kernel
theorem dX9_probeVar_16 : decode cX9_probeVar 16 = .ok (.iconst 0, 1) := by decide +kernel
theorem dX9_probeVar_17 : decode cX9_probeVar 17 = .ok (.ireturn, 1) := by decide +kernel
theorem dX9_isReachable_0 : decode cX9_isReachable 0 = .ok (.aload_n 0, 1) := by decide +kernel
theorem dX9_isReachable_1 : decode cX9_isReachable 1 = .ok (.invokevirtual 166, 3) := by decide +kernel
theorem dX9_isReachable_4 : decode cX9_isReachable 4 = .ok (.iconst 1, 1) := by decide +kernel
theorem dX9_isReachable_5 : decode cX9_isReachable 5 = .ok (.if_icmp .eq 6, 3) := by decide +kernel
theorem dX9_isReachable_8 : decode cX9_isReachable 8 = .ok (.bipush (-6), 2) := by decide +kernel
theorem dX9_isReachable_10 : decode cX9_isReachable 10 = .ok (.ireturn, 1) := by decide +kernel
theorem dX9_isReachable_11 : decode cX9_isReachable 11 = .ok (.iconst 0, 1) := by decide +kernel
theorem dX9_isReachable_12 : decode cX9_isReachable 12 = .ok (.istore_n 1, 1) := by decide +kernel
theorem dX9_isReachable_13 : decode cX9_isReachable 13 = .ok (.iload_n 1, 1) := by decide +kernel
theorem dX9_isReachable_14 : decode cX9_isReachable 14 = .ok (.bipush 6, 2) := by decide +kernel
theorem dX9_isReachable_16 : decode cX9_isReachable 16 = .ok (.if_icmp .ge 21, 3) := by decide +kernel
theorem dX9_isReachable_19 : decode cX9_isReachable 19 = .ok (.aload_n 0, 1) := by decide +kernel
theorem dX9_isReachable_20 : decode cX9_isReachable 20 = .ok (.getfield 37, 3) := by decide +kernel
theorem dX9_isReachable_23 : decode cX9_isReachable 23 = .ok (.iload_n 1, 1) := by decide +kernel
theorem dX9_isReachable_24 : decode cX9_isReachable 24 = .ok (.aload_n 0, 1) := by decide +kernel
theorem dX9_isReachable_25 : decode cX9_isReachable 25 = .ok (.getfield 16, 3) := by decide +kernel
theorem dX9_isReachable_28 : decode cX9_isReachable 28 = .ok (.iload_n 1, 1) := by decide +kernel
theorem dX9_isReachable_29 : decode cX9_isReachable 29 = .ok (.iaload, 1) := by decide +kernel
theorem dX9_isReachable_30 : decode cX9_isReachable 30 = .ok (.iastore, 1) := by decide +kernel
theorem dX9_isReachable_31 : decode cX9_isReachable 31 = .ok (.iinc 1 1, 3) := by decide +kernel
theorem dX9_isReachable_34 : decode cX9_isReachable 34 = .ok (.goto (-21), 3) := by decide +kernel
theorem dX9_isReachable_37 : decode cX9_isReachable 37 = .ok (.aload_n 0, 1) := by decide +kernel
theorem dX9_isReachable_38 : decode cX9_isReachable 38 = .ok (.invokevirtual 147, 3) := by decide +kernel
theorem dX9_isReachable_41 : decode cX9_isReachable 41 = .ok (.ifCond .eq 7, 3) := by decide +kernel
theorem dX9_isReachable_44 : decode cX9_isReachable 44 = .ok (.iconst 1, 1) := by decide +kernel
theorem dX9_isReachable_45 : decode cX9_isReachable 45 = .ok (.goto 4, 3) := by decide +kernel
theorem dX9_isReachable_48 : decode cX9_isReachable 48 = .ok (.iconst 0, 1) := by decide +kernel
theorem dX9_isReachable_49 : decode cX9_isReachable 49 = .ok (.ireturn, 1) := by decide +kernel
