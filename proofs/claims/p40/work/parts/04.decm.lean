theorem dX7_init_0 : decode cX7_init 0 = .ok (.aload_n 0, 1) := by decide +kernel
theorem dX7_init_1 : decode cX7_init 1 = .ok (.invokespecial 1, 3) := by decide +kernel
theorem dX7_init_4 : decode cX7_init 4 = .ok (.aload_n 0, 1) := by decide +kernel
theorem dX7_init_5 : decode cX7_init 5 = .ok (.new 7, 3) := by decide +kernel
theorem dX7_init_8 : decode cX7_init 8 = .ok (.dup, 1) := by decide +kernel
theorem dX7_init_9 : decode cX7_init 9 = .ok (.invokespecial 9, 3) := by decide +kernel
theorem dX7_init_12 : decode cX7_init 12 = .ok (.putfield 10, 3) := by decide +kernel
theorem dX7_init_15 : decode cX7_init 15 = .ok (.aload_n 0, 1) := by decide +kernel
theorem dX7_init_16 : decode cX7_init 16 = .ok (.iconst 2, 1) := by decide +kernel
theorem dX7_init_17 : decode cX7_init 17 = .ok (.putfield 16, 3) := by decide +kernel
theorem dX7_init_20 : decode cX7_init 20 = .ok (.aload_n 0, 1) := by decide +kernel
theorem dX7_init_21 : decode cX7_init 21 = .ok (.bipush 10, 2) := by decide +kernel
theorem dX7_init_23 : decode cX7_init 23 = .ok (.putfield 20, 3) := by decide +kernel
theorem dX7_init_26 : decode cX7_init 26 = .ok (.aload_n 0, 1) := by decide +kernel
theorem dX7_init_27 : decode cX7_init 27 = .ok (.iconst 0, 1) := by decide +kernel
theorem dX7_init_28 : decode cX7_init 28 = .ok (.anewarray 23, 3) := by decide +kernel
theorem dX7_init_31 : decode cX7_init 31 = .ok (.putfield 25, 3) := by decide +kernel
theorem dX7_init_34 : decode cX7_init 34 = .ok (.aload_n 0, 1) := by decide +kernel
theorem dX7_init_35 : decode cX7_init 35 = .ok (.iconst 4, 1) := by decide +kernel
theorem dX7_init_36 : decode cX7_init 36 = .ok (.newarray .boolean, 2) := by decide +kernel
theorem dX7_init_38 : decode cX7_init 38 = .ok (.putfield 29, 3) := by decide +kernel
theorem dX7_init_41 : decode cX7_init 41 = .ok (.aload_n 0, 1) := by decide +kernel
theorem dX7_init_42 : decode cX7_init 42 = .ok (.iconst 4, 1) := by decide +kernel
theorem dX7_init_43 : decode cX7_init 43 = .ok (.newarray .int, 2) := by decide +kernel
theorem dX7_init_45 : decode cX7_init 45 = .ok (.putfield 33, 3) := by decide +kernel
theorem dX7_init_48 : decode cX7_init 48 = .ok (.aload_n 0, 1) := by decide +kernel
theorem dX7_init_49 : decode cX7_init 49 = .ok (.iconst 4, 1) := by decide +kernel
theorem dX7_init_50 : decode cX7_init 50 = .ok (.iconst 4, 1) := by decide +kernel
theorem dX7_init_51 : decode cX7_init 51 = .ok (.multianewarray 37 2, 4) := by decide +kernel
theorem dX7_init_55 : decode cX7_init 55 = .ok (.putfield 39, 3) := by decide +kernel
theorem dX7_init_58 : decode cX7_init 58 = .ok (.aload_n 0, 1) := by decide +kernel
theorem dX7_init_59 : decode cX7_init 59 = .ok (.iconst 4, 1) := by decide +kernel
theorem dX7_init_60 : decode cX7_init 60 = .ok (.iconst 4, 1) := by decide +kernel
theorem dX7_init_61 : decode cX7_init 61 = .ok (.multianewarray 37 2, 4) := by decide +kernel
theorem dX7_init_65 : decode cX7_init 65 = .ok (.putfield 42, 3) := by decide +kernel
theorem dX7_init_68 : decode cX7_init 68 = .ok (.aload_n 0, 1) := by decide +kernel
theorem dX7_init_69 : decode cX7_init 69 = .ok (.sipush 200, 3) := by decide +kernel
theorem dX7_init_72 : decode cX7_init 72 = .ok (.newarray .int, 2) := by decide +kernel
theorem dX7_init_74 : decode cX7_init 74 = .ok (.putfield 45, 3) := by decide +kernel
theorem dX7_init_77 : decode cX7_init 77 = .ok (.aload_n 0, 1) := by decide +kernel
theorem dX7_init_78 : decode cX7_init 78 = .ok (.iconst 4, 1) := by decide +kernel
theorem dX7_init_79 : decode cX7_init 79 = .ok (.newarray .int, 2) := by decide +kernel
theorem dX7_init_81 : decode cX7_init 81 = .ok (.dup, 1) := by decide +kernel
theorem dX7_init_82 : decode cX7_init 82 = .ok (.iconst 0, 1) := by decide +kernel
theorem dX7_init_83 : decode cX7_init 83 = .ok (.iconst (-1), 1) := by decide +kernel
theorem dX7_init_84 : decode cX7_init 84 = .ok (.iastore, 1) := by decide +kernel
theorem dX7_init_85 : decode cX7_init 85 = .ok (.dup, 1) := by decide +kernel
theorem dX7_init_86 : decode cX7_init 86 = .ok (.iconst 1, 1) := by decide +kernel
theorem dX7_init_87 : decode cX7_init 87 = .ok (.iconst (-1), 1) := by decide +kernel
theorem dX7_init_88 : decode cX7_init 88 = .ok (.iastore, 1) := by decide +kernel
theorem dX7_init_89 : decode cX7_init 89 = .ok (.dup, 1) := by decide +kernel
theorem dX7_init_90 : decode cX7_init 90 = .ok (.iconst 2, 1) := by decide +kernel
theorem dX7_init_91 : decode cX7_init 91 = .ok (.iconst (-1), 1) := by decide +kernel
theorem dX7_init_92 : decode cX7_init 92 = .ok (.iastore, 1) := by decide +kernel
theorem dX7_init_93 : decode cX7_init 93 = .ok (.dup, 1) := by decide +kernel
theorem dX7_init_94 : decode cX7_init 94 = .ok (.iconst 3, 1) := by decide +kernel
theorem dX7_init_95 : decode cX7_init 95 = .ok (.iconst (-1), 1) := by decide +kernel
theorem dX7_init_96 : decode cX7_init 96 = .ok (.iastore, 1) := by decide +kernel
theorem dX7_init_97 : decode cX7_init 97 = .ok (.putfield 48, 3) := by decide +kernel
theorem dX7_init_100 : decode cX7_init 100 = .ok (.aload_n 0, 1) := by decide +kernel
theorem dX7_init_101 : decode cX7_init 101 = .ok (.iconst 4, 1) := by decide +kernel
theorem dX7_init_102 : decode cX7_init 102 = .ok (.newarray .int, 2) := by decide +kernel
theorem dX7_init_104 : decode cX7_init 104 = .ok (.putfield 51, 3) := by decide +kernel
theorem dX7_init_107 : decode cX7_init 107 = .ok (.aload_n 0, 1) := by decide +kernel
theorem dX7_init_108 : decode cX7_init 108 = .ok (.iconst 4, 1) := by decide +kernel
theorem dX7_init_109 : decode cX7_init 109 = .ok (.iconst 4, 1) := by decide +kernel
theorem dX7_init_110 : decode cX7_init 110 = .ok (.multianewarray 37 2, 4) := by decide +kernel
theorem dX7_init_114 : decode cX7_init 114 = .ok (.putfield 54, 3) := by decide +kernel
theorem dX7_init_117 : decode cX7_init 117 = .ok (.aload_n 0, 1) := by decide +kernel
theorem dX7_init_118 : decode cX7_init 118 = .ok (.iconst 4, 1) := by decide +kernel
theorem dX7_init_119 : decode cX7_init 119 = .ok (.iconst 4, 1) := by decide +kernel
theorem dX7_init_120 : decode cX7_init 120 = .ok (.multianewarray 37 2, 4) := by decide +kernel
theorem dX7_init_124 : decode cX7_init 124 = .ok (.putfield 57, 3) := by decide +kernel
theorem dX7_init_127 : decode cX7_init 127 = .ok (.aload_n 0, 1) := by decide +kernel
theorem dX7_init_128 : decode cX7_init 128 = .ok (.iconst 4, 1) := by decide +kernel
theorem dX7_init_129 : decode cX7_init 129 = .ok (.iconst 4, 1) := by decide +kernel
theorem dX7_init_130 : decode cX7_init 130 = .ok (.multianewarray 37 2, 4) := by decide +kernel
theorem dX7_init_134 : decode cX7_init 134 = .ok (.putfield 60, 3) := by decide +kernel
theorem dX7_init_137 : decode cX7_init 137 = .ok (.aload_n 0, 1) := by decide +kernel
theorem dX7_init_138 : decode cX7_init 138 = .ok (.iconst 4, 1) := by decide +kernel
theorem dX7_init_139 : decode cX7_init 139 = .ok (.bipush 6, 2) := by decide +kernel
theorem dX7_init_141 : decode cX7_init 141 = .ok (.multianewarray 63 2, 4) := by decide +kernel
theorem dX7_init_145 : decode cX7_init 145 = .ok (.putfield 65, 3) := by decide +kernel
theorem dX7_init_148 : decode cX7_init 148 = .ok (.aload_n 0, 1) := by decide +kernel
theorem dX7_init_149 : decode cX7_init 149 = .ok (.iconst 0, 1) := by decide +kernel
theorem dX7_init_150 : decode cX7_init 150 = .ok (.anewarray 68, 3) := by decide +kernel
theorem dX7_init_153 : decode cX7_init 153 = .ok (.putfield 69, 3) := by decide +kernel
theorem dX7_init_156 : decode cX7_init 156 = .ok (.aload_n 0, 1) := by decide +kernel
theorem dX7_init_157 : decode cX7_init 157 = .ok (.aload_n 1, 1) := by decide +kernel
theorem dX7_init_158 : decode cX7_init 158 = .ok (.putfield 72, 3) := by decide +kernel
theorem dX7_init_161 : decode cX7_init 161 = .ok (.aload_n 0, 1) := by decide +kernel
theorem dX7_init_162 : decode cX7_init 162 = .ok (.iload_n 2, 1) := by decide +kernel
theorem dX7_init_163 : decode cX7_init 163 = .ok (.putfield 75, 3) := by decide +kernel
theorem dX7_init_166 : decode cX7_init 166 = .ok (.return_, 1) := by decide +kernel
theorem dX7_draw_0 : decode cX7_draw 0 = .ok (.aload_n 0, 1) := by decide +kernel
theorem dX7_draw_1 : decode cX7_draw 1 = .ok (.getfield 72, 3) := by decide +kernel
theorem dX7_draw_4 : decode cX7_draw 4 = .ok (.aload_n 0, 1) := by decide +kernel
theorem dX7_draw_5 : decode cX7_draw 5 = .ok (.getfield 75, 3) := by decide +kernel
theorem dX7_draw_8 : decode cX7_draw 8 = .ok (.bipush 24, 2) := by decide +kernel
theorem dX7_draw_10 : decode cX7_draw 10 = .ok (.irem, 1) := by decide +kernel
theorem dX7_draw_11 : decode cX7_draw 11 = .ok (.invokestatic 78, 3) := by decide +kernel
theorem dX7_draw_14 : decode cX7_draw 14 = .ok (.aload_n 0, 1) := by decide +kernel
theorem dX7_draw_15 : decode cX7_draw 15 = .ok (.getfield 75, 3) := by decide +kernel
theorem dX7_draw_18 : decode cX7_draw 18 = .ok (.bipush 24, 2) := by decide +kernel
theorem dX7_draw_20 : decode cX7_draw 20 = .ok (.idiv, 1) := by decide +kernel
theorem dX7_draw_21 : decode cX7_draw 21 = .ok (.bipush 8, 2) := by decide +kernel
theorem dX7_draw_23 : decode cX7_draw 23 = .ok (.irem, 1) := by decide +kernel
theorem dX7_draw_24 : decode cX7_draw 24 = .ok (.ishr, 1) := by decide +kernel
theorem dX7_draw_25 : decode cX7_draw 25 = .ok (.bipush 109, 2) := by decide +kernel
theorem dX7_draw_27 : decode cX7_draw 27 = .ok (.aload_n 0, 1) := by decide +kernel
theorem dX7_draw_28 : decode cX7_draw 28 = .ok (.getfield 75, 3) := by decide +kernel
theorem dX7_draw_31 : decode cX7_draw 31 = .ok (.imul, 1) := by decide +kernel
theorem dX7_draw_32 : decode cX7_draw 32 = .ok (.iadd, 1) := by decide +kernel
theorem dX7_draw_33 : decode cX7_draw 33 = .ok (.iload_n 1, 1) := by decide +kernel
theorem dX7_draw_34 : decode cX7_draw 34 = .ok (.invokestatic 84, 3) := by decide +kernel
theorem dX7_draw_37 : decode cX7_draw 37 = .ok (.istore_n 2, 1) := by decide +kernel
theorem dX7_draw_38 : decode cX7_draw 38 = .ok (.aload_n 0, 1) := by decide +kernel
theorem dX7_draw_39 : decode cX7_draw 39 = .ok (.dup, 1) := by decide +kernel
theorem dX7_draw_40 : decode cX7_draw 40 = .ok (.getfield 75, 3) := by decide +kernel
theorem dX7_draw_43 : decode cX7_draw 43 = .ok (.iconst 1, 1) := by decide +kernel
theorem dX7_draw_44 : decode cX7_draw 44 = .ok (.iadd, 1) := by decide +kernel
theorem dX7_draw_45 : decode cX7_draw 45 = .ok (.putfield 75, 3) := by decide +kernel
theorem dX7_draw_48 : decode cX7_draw 48 = .ok (.iload_n 2, 1) := by decide +kernel
theorem dX7_draw_49 : decode cX7_draw 49 = .ok (.ireturn, 1) := by decide +kernel
theorem dX7_with_0 : decode cX7_with 0 = .ok (.aload_n 0, 1) := by decide +kernel
theorem dX7_with_1 : decode cX7_with 1 = .ok (.arraylength, 1) := by decide +kernel
theorem dX7_with_2 : decode cX7_with 2 = .ok (.iconst 1, 1) := by decide +kernel
theorem dX7_with_3 : decode cX7_with 3 = .ok (.iadd, 1) := by decide +kernel
theorem dX7_with_4 : decode cX7_with 4 = .ok (.anewarray 68, 3) := by decide +kernel
theorem dX7_with_7 : decode cX7_with 7 = .ok (.astore_n 2, 1) := by decide +kernel
theorem dX7_with_8 : decode cX7_with 8 = .ok (.aload_n 0, 1) := by decide +kernel
theorem dX7_with_9 : decode cX7_with 9 = .ok (.iconst 0, 1) := by decide +kernel
theorem dX7_with_10 : decode cX7_with 10 = .ok (.aload_n 2, 1) := by decide +kernel
theorem dX7_with_11 : decode cX7_with 11 = .ok (.iconst 0, 1) := by decide +kernel
theorem dX7_with_12 : decode cX7_with 12 = .ok (.aload_n 0, 1) := by decide +kernel
theorem dX7_with_13 : decode cX7_with 13 = .ok (.arraylength, 1) := by decide +kernel
theorem dX7_with_14 : decode cX7_with 14 = .ok (.invokestatic 88, 3) := by decide +kernel
theorem dX7_with_17 : decode cX7_with 17 = .ok (.aload_n 2, 1) := by decide +kernel
theorem dX7_with_18 : decode cX7_with 18 = .ok (.aload_n 0, 1) := by decide +kernel
theorem dX7_with_19 : decode cX7_with 19 = .ok (.arraylength, 1) := by decide +kernel
theorem dX7_with_20 : decode cX7_with 20 = .ok (.aload_n 1, 1) := by decide +kernel
theorem dX7_with_21 : decode cX7_with 21 = .ok (.aastore, 1) := by decide +kernel
theorem dX7_with_22 : decode cX7_with 22 = .ok (.aload_n 2, 1) := by decide +kernel
theorem dX7_with_23 : decode cX7_with 23 = .ok (.areturn, 1) := by decide +kernel
theorem dX7_addTopic_0 : decode cX7_addTopic 0 = .ok (.aload_n 0, 1) := by decide +kernel
theorem dX7_addTopic_1 : decode cX7_addTopic 1 = .ok (.getfield 25, 3) := by decide +kernel
theorem dX7_addTopic_4 : decode cX7_addTopic 4 = .ok (.arraylength, 1) := by decide +kernel
theorem dX7_addTopic_5 : decode cX7_addTopic 5 = .ok (.iconst 4, 1) := by decide +kernel
theorem dX7_addTopic_6 : decode cX7_addTopic 6 = .ok (.if_icmp .ne 5, 3) := by decide +kernel
theorem dX7_addTopic_9 : decode cX7_addTopic 9 = .ok (.iconst 1, 1) := by decide +kernel
theorem dX7_addTopic_10 : decode cX7_addTopic 10 = .ok (.ireturn, 1) := by decide +kernel
theorem dX7_addTopic_11 : decode cX7_addTopic 11 = .ok (.iconst 1, 1) := by decide +kernel
theorem dX7_addTopic_12 : decode cX7_addTopic 12 = .ok (.aload_n 0, 1) := by decide +kernel
theorem dX7_addTopic_13 : decode cX7_addTopic 13 = .ok (.iconst 3, 1) := by decide +kernel
theorem dX7_addTopic_14 : decode cX7_addTopic 14 = .ok (.invokevirtual 94, 3) := by decide +kernel
theorem dX7_addTopic_17 : decode cX7_addTopic 17 = .ok (.iadd, 1) := by decide +kernel
theorem dX7_addTopic_18 : decode cX7_addTopic 18 = .ok (.istore_n 1, 1) := by decide +kernel
theorem dX7_addTopic_19 : decode cX7_addTopic 19 = .ok (.aload_n 0, 1) := by decide +kernel
theorem dX7_addTopic_20 : decode cX7_addTopic 20 = .ok (.getfield 25, 3) := by decide +kernel
theorem dX7_addTopic_23 : decode cX7_addTopic 23 = .ok (.arraylength, 1) := by decide +kernel
theorem dX7_addTopic_24 : decode cX7_addTopic 24 = .ok (.istore_n 2, 1) := by decide +kernel
theorem dX7_addTopic_25 : decode cX7_addTopic 25 = .ok (.aload_n 0, 1) := by decide +kernel
theorem dX7_addTopic_26 : decode cX7_addTopic 26 = .ok (.getfield 29, 3) := by decide +kernel
theorem dX7_addTopic_29 : decode cX7_addTopic 29 = .ok (.iload_n 2, 1) := by decide +kernel
theorem dX7_addTopic_30 : decode cX7_addTopic 30 = .ok (.aload_n 0, 1) := by decide +kernel
theorem dX7_addTopic_31 : decode cX7_addTopic 31 = .ok (.iconst 2, 1) := by decide +kernel
theorem dX7_addTopic_32 : decode cX7_addTopic 32 = .ok (.invokevirtual 94, 3) := by decide +kernel
theorem dX7_addTopic_35 : decode cX7_addTopic 35 = .ok (.ifCond .ne 7, 3) := by decide +kernel
theorem dX7_addTopic_38 : decode cX7_addTopic 38 = .ok (.iconst 1, 1) := by decide +kernel
theorem dX7_addTopic_39 : decode cX7_addTopic 39 = .ok (.goto 4, 3) := by decide +kernel
theorem dX7_addTopic_42 : decode cX7_addTopic 42 = .ok (.iconst 0, 1) := by decide +kernel
theorem dX7_addTopic_43 : decode cX7_addTopic 43 = .ok (.bastore, 1) := by decide +kernel
theorem dX7_addTopic_44 : decode cX7_addTopic 44 = .ok (.iload_n 2, 1) := by decide +kernel
theorem dX7_addTopic_45 : decode cX7_addTopic 45 = .ok (.iconst 1, 1) := by decide +kernel
theorem dX7_addTopic_46 : decode cX7_addTopic 46 = .ok (.iadd, 1) := by decide +kernel
theorem dX7_addTopic_47 : decode cX7_addTopic 47 = .ok (.anewarray 23, 3) := by decide +kernel
theorem dX7_addTopic_50 : decode cX7_addTopic 50 = .ok (.astore_n 3, 1) := by decide +kernel
theorem dX7_addTopic_51 : decode cX7_addTopic 51 = .ok (.aload_n 0, 1) := by decide +kernel
theorem dX7_addTopic_52 : decode cX7_addTopic 52 = .ok (.getfield 25, 3) := by decide +kernel
theorem dX7_addTopic_55 : decode cX7_addTopic 55 = .ok (.iconst 0, 1) := by decide +kernel
theorem dX7_addTopic_56 : decode cX7_addTopic 56 = .ok (.aload_n 3, 1) := by decide +kernel
theorem dX7_addTopic_57 : decode cX7_addTopic 57 = .ok (.iconst 0, 1) := by decide +kernel
theorem dX7_addTopic_58 : decode cX7_addTopic 58 = .ok (.iload_n 2, 1) := by decide +kernel
theorem dX7_addTopic_59 : decode cX7_addTopic 59 = .ok (.invokestatic 88, 3) := by decide +kernel
theorem dX7_addTopic_62 : decode cX7_addTopic 62 = .ok (.aload_n 3, 1) := by decide +kernel
theorem dX7_addTopic_63 : decode cX7_addTopic 63 = .ok (.iload_n 2, 1) := by decide +kernel
theorem dX7_addTopic_64 : decode cX7_addTopic 64 = .ok (.iload_n 1, 1) := by decide +kernel
theorem dX7_addTopic_65 : decode cX7_addTopic 65 = .ok (.iconst 0, 1) := by decide +kernel
theorem dX7_addTopic_66 : decode cX7_addTopic 66 = .ok (.multianewarray 23 2, 4) := by decide +kernel
theorem dX7_addTopic_70 : decode cX7_addTopic 70 = .ok (.aastore, 1) := by decide +kernel
theorem dX7_addTopic_71 : decode cX7_addTopic 71 = .ok (.aload_n 0, 1) := by decide +kernel
theorem dX7_addTopic_72 : decode cX7_addTopic 72 = .ok (.aload_n 3, 1) := by decide +kernel
theorem dX7_addTopic_73 : decode cX7_addTopic 73 = .ok (.putfield 25, 3) := by decide +kernel
theorem dX7_addTopic_76 : decode cX7_addTopic 76 = .ok (.aload_n 0, 1) := by decide +kernel
theorem dX7_addTopic_77 : decode cX7_addTopic 77 = .ok (.getfield 10, 3) := by decide +kernel
theorem dX7_addTopic_80 : decode cX7_addTopic 80 = .ok (.iload_n 1, 1) := by decide +kernel
theorem dX7_addTopic_81 : decode cX7_addTopic 81 = .ok (.aload_n 0, 1) := by decide +kernel
theorem dX7_addTopic_82 : decode cX7_addTopic 82 = .ok (.getfield 29, 3) := by decide +kernel
theorem dX7_addTopic_85 : decode cX7_addTopic 85 = .ok (.iload_n 2, 1) := by decide +kernel
theorem dX7_addTopic_86 : decode cX7_addTopic 86 = .ok (.baload, 1) := by decide +kernel
theorem dX7_addTopic_87 : decode cX7_addTopic 87 = .ok (.invokevirtual 98, 3) := by decide +kernel
theorem dX7_addTopic_90 : decode cX7_addTopic 90 = .ok (.iload_n 2, 1) := by decide +kernel
theorem dX7_addTopic_91 : decode cX7_addTopic 91 = .ok (.if_icmp .ne 7, 3) := by decide +kernel
theorem dX7_addTopic_94 : decode cX7_addTopic 94 = .ok (.iconst 1, 1) := by decide +kernel
theorem dX7_addTopic_95 : decode cX7_addTopic 95 = .ok (.goto 4, 3) := by decide +kernel
theorem dX7_addTopic_98 : decode cX7_addTopic 98 = .ok (.iconst 0, 1) := by decide +kernel
theorem dX7_addTopic_99 : decode cX7_addTopic 99 = .ok (.ireturn, 1) := by decide +kernel
theorem dX7_seen_0 : decode cX7_seen 0 = .ok (.aload_n 1, 1) := by decide +kernel
theorem dX7_seen_1 : decode cX7_seen 1 = .ok (.iconst 3, 1) := by decide +kernel
theorem dX7_seen_2 : decode cX7_seen 2 = .ok (.iaload, 1) := by decide +kernel
theorem dX7_seen_3 : decode cX7_seen 3 = .ok (.ifCond .ge 7, 3) := by decide +kernel
theorem dX7_seen_6 : decode cX7_seen 6 = .ok (.iconst 0, 1) := by decide +kernel
theorem dX7_seen_7 : decode cX7_seen 7 = .ok (.goto 36, 3) := by decide +kernel
theorem dX7_seen_10 : decode cX7_seen 10 = .ok (.aload_n 0, 1) := by decide +kernel
theorem dX7_seen_11 : decode cX7_seen 11 = .ok (.getfield 45, 3) := by decide +kernel
theorem dX7_seen_14 : decode cX7_seen 14 = .ok (.aload_n 1, 1) := by decide +kernel
theorem dX7_seen_15 : decode cX7_seen 15 = .ok (.iconst 3, 1) := by decide +kernel
theorem dX7_seen_16 : decode cX7_seen 16 = .ok (.iaload, 1) := by decide +kernel
theorem dX7_seen_17 : decode cX7_seen 17 = .ok (.iaload, 1) := by decide +kernel
theorem dX7_seen_18 : decode cX7_seen 18 = .ok (.iconst 1, 1) := by decide +kernel
theorem dX7_seen_19 : decode cX7_seen 19 = .ok (.if_icmp .ne 7, 3) := by decide +kernel
theorem dX7_seen_22 : decode cX7_seen 22 = .ok (.iconst 0, 1) := by decide +kernel
theorem dX7_seen_23 : decode cX7_seen 23 = .ok (.goto 20, 3) := by decide +kernel
theorem dX7_seen_26 : decode cX7_seen 26 = .ok (.aload_n 0, 1) := by decide +kernel
theorem dX7_seen_27 : decode cX7_seen 27 = .ok (.getfield 45, 3) := by decide +kernel
theorem dX7_seen_30 : decode cX7_seen 30 = .ok (.aload_n 1, 1) := by decide +kernel
theorem dX7_seen_31 : decode cX7_seen 31 = .ok (.iconst 3, 1) := by decide +kernel
theorem dX7_seen_32 : decode cX7_seen 32 = .ok (.iaload, 1) := by decide +kernel
theorem dX7_seen_33 : decode cX7_seen 33 = .ok (.iaload, 1) := by decide +kernel
theorem dX7_seen_34 : decode cX7_seen 34 = .ok (.iconst 2, 1) := by decide +kernel
theorem dX7_seen_35 : decode cX7_seen 35 = .ok (.if_icmp .ne 7, 3) := by decide +kernel
theorem dX7_seen_38 : decode cX7_seen 38 = .ok (.iconst 1, 1) := by decide +kernel
theorem dX7_seen_39 : decode cX7_seen 39 = .ok (.goto 4, 3) := by decide +kernel
theorem dX7_seen_42 : decode cX7_seen 42 = .ok (.iconst 2, 1) := by decide +kernel
theorem dX7_seen_43 : decode cX7_seen 43 = .ok (.ireturn, 1) := by decide +kernel
theorem dX7_stable_0 : decode cX7_stable 0 = .ok (.iconst 0, 1) := by decide +kernel
theorem dX7_stable_1 : decode cX7_stable 1 = .ok (.istore_n 2, 1) := by decide +kernel
theorem dX7_stable_2 : decode cX7_stable 2 = .ok (.iload_n 2, 1) := by decide +kernel
theorem dX7_stable_3 : decode cX7_stable 3 = .ok (.aload_n 1, 1) := by decide +kernel
theorem dX7_stable_4 : decode cX7_stable 4 = .ok (.arraylength, 1) := by decide +kernel
theorem dX7_stable_5 : decode cX7_stable 5 = .ok (.if_icmp .ge 22, 3) := by decide +kernel
theorem dX7_stable_8 : decode cX7_stable 8 = .ok (.aload_n 0, 1) := by decide +kernel
theorem dX7_stable_9 : decode cX7_stable 9 = .ok (.aload_n 1, 1) := by decide +kernel
theorem dX7_stable_10 : decode cX7_stable 10 = .ok (.iload_n 2, 1) := by decide +kernel
theorem dX7_stable_11 : decode cX7_stable 11 = .ok (.aaload, 1) := by decide +kernel
theorem dX7_stable_12 : decode cX7_stable 12 = .ok (.invokevirtual 101, 3) := by decide +kernel
theorem dX7_stable_15 : decode cX7_stable 15 = .ok (.iconst 2, 1) := by decide +kernel
theorem dX7_stable_16 : decode cX7_stable 16 = .ok (.if_icmp .ne 5, 3) := by decide +kernel
theorem dX7_stable_19 : decode cX7_stable 19 = .ok (.iload_n 2, 1) := by decide +kernel
theorem dX7_stable_20 : decode cX7_stable 20 = .ok (.ireturn, 1) := by decide +kernel
theorem dX7_stable_21 : decode cX7_stable 21 = .ok (.iinc 2 1, 3) := by decide +kernel
theorem dX7_stable_24 : decode cX7_stable 24 = .ok (.goto (-22), 3) := by decide +kernel
theorem dX7_stable_27 : decode cX7_stable 27 = .ok (.aload_n 1, 1) := by decide +kernel
theorem dX7_stable_28 : decode cX7_stable 28 = .ok (.arraylength, 1) := by decide +kernel
theorem dX7_stable_29 : decode cX7_stable 29 = .ok (.ireturn, 1) := by decide +kernel
theorem dX7_isPast_0 : decode cX7_isPast 0 = .ok (.aload_n 1, 1) := by decide +kernel
theorem dX7_isPast_1 : decode cX7_isPast 1 = .ok (.iconst 5, 1) := by decide +kernel
theorem dX7_isPast_2 : decode cX7_isPast 2 = .ok (.iconst 3, 1) := by decide +kernel
theorem dX7_isPast_3 : decode cX7_isPast 3 = .ok (.iload_n 2, 1) := by decide +kernel
theorem dX7_isPast_4 : decode cX7_isPast 4 = .ok (.imul, 1) := by decide +kernel
theorem dX7_isPast_5 : decode cX7_isPast 5 = .ok (.iadd, 1) := by decide +kernel
theorem dX7_isPast_6 : decode cX7_isPast 6 = .ok (.iaload, 1) := by decide +kernel
theorem dX7_isPast_7 : decode cX7_isPast 7 = .ok (.iconst 2, 1) := by decide +kernel
theorem dX7_isPast_8 : decode cX7_isPast 8 = .ok (.if_icmp .gt 19, 3) := by decide +kernel
theorem dX7_isPast_11 : decode cX7_isPast 11 = .ok (.aload_n 0, 1) := by decide +kernel
theorem dX7_isPast_12 : decode cX7_isPast 12 = .ok (.aload_n 1, 1) := by decide +kernel
theorem dX7_isPast_13 : decode cX7_isPast 13 = .ok (.invokevirtual 101, 3) := by decide +kernel
theorem dX7_isPast_16 : decode cX7_isPast 16 = .ok (.iconst 1, 1) := by decide +kernel
theorem dX7_isPast_17 : decode cX7_isPast 17 = .ok (.if_icmp .eq 10, 3) := by decide +kernel
theorem dX7_isPast_20 : decode cX7_isPast 20 = .ok (.aload_n 1, 1) := by decide +kernel
theorem dX7_isPast_21 : decode cX7_isPast 21 = .ok (.iconst 4, 1) := by decide +kernel
theorem dX7_isPast_22 : decode cX7_isPast 22 = .ok (.iaload, 1) := by decide +kernel
theorem dX7_isPast_23 : decode cX7_isPast 23 = .ok (.iconst 1, 1) := by decide +kernel
theorem dX7_isPast_24 : decode cX7_isPast 24 = .ok (.if_icmp .ne 7, 3) := by decide +kernel
theorem dX7_isPast_27 : decode cX7_isPast 27 = .ok (.iconst 1, 1) := by decide +kernel
theorem dX7_isPast_28 : decode cX7_isPast 28 = .ok (.goto 4, 3) := by decide +kernel
theorem dX7_isPast_31 : decode cX7_isPast 31 = .ok (.iconst 0, 1) := by decide +kernel
theorem dX7_isPast_32 : decode cX7_isPast 32 = .ok (.ireturn, 1) := by decide +kernel
theorem dX7_settle_0 : decode cX7_settle 0 = .ok (.iconst 0, 1) := by decide +kernel
theorem dX7_settle_1 : decode cX7_settle 1 = .ok (.istore_n 1, 1) := by decide +kernel
theorem dX7_settle_2 : decode cX7_settle 2 = .ok (.iload_n 1, 1) := by decide +kernel
theorem dX7_settle_3 : decode cX7_settle 3 = .ok (.aload_n 0, 1) := by decide +kernel
theorem dX7_settle_4 : decode cX7_settle 4 = .ok (.getfield 105, 3) := by decide +kernel
theorem dX7_settle_7 : decode cX7_settle 7 = .ok (.if_icmp .ge 128, 3) := by decide +kernel
theorem dX7_settle_10 : decode cX7_settle 10 = .ok (.iconst 0, 1) := by decide +kernel
theorem dX7_settle_11 : decode cX7_settle 11 = .ok (.istore_n 2, 1) := by decide +kernel
theorem dX7_settle_12 : decode cX7_settle 12 = .ok (.iload_n 2, 1) := by decide +kernel
theorem dX7_settle_13 : decode cX7_settle 13 = .ok (.aload_n 0, 1) := by decide +kernel
theorem dX7_settle_14 : decode cX7_settle 14 = .ok (.getfield 25, 3) := by decide +kernel
theorem dX7_settle_17 : decode cX7_settle 17 = .ok (.aload_n 0, 1) := by decide +kernel
theorem dX7_settle_18 : decode cX7_settle 18 = .ok (.getfield 51, 3) := by decide +kernel
theorem dX7_settle_21 : decode cX7_settle 21 = .ok (.iload_n 1, 1) := by decide +kernel
theorem dX7_settle_22 : decode cX7_settle 22 = .ok (.iaload, 1) := by decide +kernel
theorem dX7_settle_23 : decode cX7_settle 23 = .ok (.aaload, 1) := by decide +kernel
theorem dX7_settle_24 : decode cX7_settle 24 = .ok (.arraylength, 1) := by decide +kernel
theorem dX7_settle_25 : decode cX7_settle 25 = .ok (.if_icmp .ge 104, 3) := by decide +kernel
theorem dX7_settle_28 : decode cX7_settle 28 = .ok (.aload_n 0, 1) := by decide +kernel
theorem dX7_settle_29 : decode cX7_settle 29 = .ok (.getfield 25, 3) := by decide +kernel
theorem dX7_settle_32 : decode cX7_settle 32 = .ok (.aload_n 0, 1) := by decide +kernel
theorem dX7_settle_33 : decode cX7_settle 33 = .ok (.getfield 51, 3) := by decide +kernel
theorem dX7_settle_36 : decode cX7_settle 36 = .ok (.iload_n 1, 1) := by decide +kernel
theorem dX7_settle_37 : decode cX7_settle 37 = .ok (.iaload, 1) := by decide +kernel
theorem dX7_settle_38 : decode cX7_settle 38 = .ok (.aaload, 1) := by decide +kernel
theorem dX7_settle_39 : decode cX7_settle 39 = .ok (.iload_n 2, 1) := by decide +kernel
theorem dX7_settle_40 : decode cX7_settle 40 = .ok (.aaload, 1) := by decide +kernel
theorem dX7_settle_41 : decode cX7_settle 41 = .ok (.astore_n 3, 1) := by decide +kernel
theorem dX7_settle_42 : decode cX7_settle 42 = .ok (.aload_n 0, 1) := by decide +kernel
theorem dX7_settle_43 : decode cX7_settle 43 = .ok (.getfield 54, 3) := by decide +kernel
theorem dX7_settle_46 : decode cX7_settle 46 = .ok (.iload_n 1, 1) := by decide +kernel
theorem dX7_settle_47 : decode cX7_settle 47 = .ok (.aaload, 1) := by decide +kernel
theorem dX7_settle_48 : decode cX7_settle 48 = .ok (.iload_n 2, 1) := by decide +kernel
theorem dX7_settle_49 : decode cX7_settle 49 = .ok (.iaload, 1) := by decide +kernel
theorem dX7_settle_50 : decode cX7_settle 50 = .ok (.aload_n 3, 1) := by decide +kernel
theorem dX7_settle_51 : decode cX7_settle 51 = .ok (.arraylength, 1) := by decide +kernel
theorem dX7_settle_52 : decode cX7_settle 52 = .ok (.if_icmp .ge 36, 3) := by decide +kernel
theorem dX7_settle_55 : decode cX7_settle 55 = .ok (.aload_n 0, 1) := by decide +kernel
theorem dX7_settle_56 : decode cX7_settle 56 = .ok (.aload_n 3, 1) := by decide +kernel
theorem dX7_settle_57 : decode cX7_settle 57 = .ok (.aload_n 0, 1) := by decide +kernel
theorem dX7_settle_58 : decode cX7_settle 58 = .ok (.getfield 54, 3) := by decide +kernel
theorem dX7_settle_61 : decode cX7_settle 61 = .ok (.iload_n 1, 1) := by decide +kernel
theorem dX7_settle_62 : decode cX7_settle 62 = .ok (.aaload, 1) := by decide +kernel
theorem dX7_settle_63 : decode cX7_settle 63 = .ok (.iload_n 2, 1) := by decide +kernel
theorem dX7_settle_64 : decode cX7_settle 64 = .ok (.iaload, 1) := by decide +kernel
theorem dX7_settle_65 : decode cX7_settle 65 = .ok (.aaload, 1) := by decide +kernel
theorem dX7_settle_66 : decode cX7_settle 66 = .ok (.iload_n 1, 1) := by decide +kernel
theorem dX7_settle_67 : decode cX7_settle 67 = .ok (.invokevirtual 108, 3) := by decide +kernel
theorem dX7_settle_70 : decode cX7_settle 70 = .ok (.ifCond .eq 18, 3) := by decide +kernel
theorem dX7_settle_73 : decode cX7_settle 73 = .ok (.aload_n 0, 1) := by decide +kernel
theorem dX7_settle_74 : decode cX7_settle 74 = .ok (.getfield 54, 3) := by decide +kernel
theorem dX7_settle_77 : decode cX7_settle 77 = .ok (.iload_n 1, 1) := by decide +kernel
theorem dX7_settle_78 : decode cX7_settle 78 = .ok (.aaload, 1) := by decide +kernel
theorem dX7_settle_79 : decode cX7_settle 79 = .ok (.iload_n 2, 1) := by decide +kernel
theorem dX7_settle_80 : decode cX7_settle 80 = .ok (.dup2, 1) := by decide +kernel
theorem dX7_settle_81 : decode cX7_settle 81 = .ok (.iaload, 1) := by decide +kernel
theorem dX7_settle_82 : decode cX7_settle 82 = .ok (.iconst 1, 1) := by decide +kernel
theorem dX7_settle_83 : decode cX7_settle 83 = .ok (.iadd, 1) := by decide +kernel
theorem dX7_settle_84 : decode cX7_settle 84 = .ok (.iastore, 1) := by decide +kernel
theorem dX7_settle_85 : decode cX7_settle 85 = .ok (.goto (-43), 3) := by decide +kernel
theorem dX7_settle_88 : decode cX7_settle 88 = .ok (.aload_n 0, 1) := by decide +kernel
theorem dX7_settle_89 : decode cX7_settle 89 = .ok (.getfield 57, 3) := by decide +kernel
theorem dX7_settle_92 : decode cX7_settle 92 = .ok (.iload_n 1, 1) := by decide +kernel
theorem dX7_settle_93 : decode cX7_settle 93 = .ok (.aaload, 1) := by decide +kernel
theorem dX7_settle_94 : decode cX7_settle 94 = .ok (.iload_n 2, 1) := by decide +kernel
theorem dX7_settle_95 : decode cX7_settle 95 = .ok (.iaload, 1) := by decide +kernel
theorem dX7_settle_96 : decode cX7_settle 96 = .ok (.aload_n 0, 1) := by decide +kernel
theorem dX7_settle_97 : decode cX7_settle 97 = .ok (.getfield 54, 3) := by decide +kernel
theorem dX7_settle_100 : decode cX7_settle 100 = .ok (.iload_n 1, 1) := by decide +kernel
theorem dX7_settle_101 : decode cX7_settle 101 = .ok (.aaload, 1) := by decide +kernel
theorem dX7_settle_102 : decode cX7_settle 102 = .ok (.iload_n 2, 1) := by decide +kernel
theorem dX7_settle_103 : decode cX7_settle 103 = .ok (.iaload, 1) := by decide +kernel
theorem dX7_settle_104 : decode cX7_settle 104 = .ok (.if_icmp .ge 19, 3) := by decide +kernel
theorem dX7_settle_107 : decode cX7_settle 107 = .ok (.aload_n 0, 1) := by decide +kernel
theorem dX7_settle_108 : decode cX7_settle 108 = .ok (.getfield 57, 3) := by decide +kernel
theorem dX7_settle_111 : decode cX7_settle 111 = .ok (.iload_n 1, 1) := by decide +kernel
theorem dX7_settle_112 : decode cX7_settle 112 = .ok (.aaload, 1) := by decide +kernel
theorem dX7_settle_113 : decode cX7_settle 113 = .ok (.iload_n 2, 1) := by decide +kernel
theorem dX7_settle_114 : decode cX7_settle 114 = .ok (.aload_n 0, 1) := by decide +kernel
theorem dX7_settle_115 : decode cX7_settle 115 = .ok (.getfield 54, 3) := by decide +kernel
theorem dX7_settle_118 : decode cX7_settle 118 = .ok (.iload_n 1, 1) := by decide +kernel
theorem dX7_settle_119 : decode cX7_settle 119 = .ok (.aaload, 1) := by decide +kernel
theorem dX7_settle_120 : decode cX7_settle 120 = .ok (.iload_n 2, 1) := by decide +kernel
theorem dX7_settle_121 : decode cX7_settle 121 = .ok (.iaload, 1) := by decide +kernel
theorem dX7_settle_122 : decode cX7_settle 122 = .ok (.iastore, 1) := by decide +kernel
theorem dX7_settle_123 : decode cX7_settle 123 = .ok (.iinc 2 1, 3) := by decide +kernel
theorem dX7_settle_126 : decode cX7_settle 126 = .ok (.goto (-114), 3) := by decide +kernel
theorem dX7_settle_129 : decode cX7_settle 129 = .ok (.iinc 1 1, 3) := by decide +kernel
theorem dX7_settle_132 : decode cX7_settle 132 = .ok (.goto (-130), 3) := by decide +kernel
theorem dX7_settle_135 : decode cX7_settle 135 = .ok (.return_, 1) := by decide +kernel
theorem dX7_send_0 : decode cX7_send 0 = .ok (.aload_n 0, 1) := by decide +kernel
theorem dX7_send_1 : decode cX7_send 1 = .ok (.aload_n 0, 1) := by decide +kernel
theorem dX7_send_2 : decode cX7_send 2 = .ok (.getfield 25, 3) := by decide +kernel
theorem dX7_send_5 : decode cX7_send 5 = .ok (.arraylength, 1) := by decide +kernel
theorem dX7_send_6 : decode cX7_send 6 = .ok (.invokevirtual 94, 3) := by decide +kernel
theorem dX7_send_9 : decode cX7_send 9 = .ok (.istore_n 1, 1) := by decide +kernel
theorem dX7_send_10 : decode cX7_send 10 = .ok (.aload_n 0, 1) := by decide +kernel
theorem dX7_send_11 : decode cX7_send 11 = .ok (.iconst 4, 1) := by decide +kernel
theorem dX7_send_12 : decode cX7_send 12 = .ok (.invokevirtual 94, 3) := by decide +kernel
theorem dX7_send_15 : decode cX7_send 15 = .ok (.istore_n 2, 1) := by decide +kernel
theorem dX7_send_16 : decode cX7_send 16 = .ok (.aload_n 0, 1) := by decide +kernel
theorem dX7_send_17 : decode cX7_send 17 = .ok (.getfield 42, 3) := by decide +kernel
theorem dX7_send_20 : decode cX7_send 20 = .ok (.iload_n 1, 1) := by decide +kernel
theorem dX7_send_21 : decode cX7_send 21 = .ok (.aaload, 1) := by decide +kernel
theorem dX7_send_22 : decode cX7_send 22 = .ok (.iload_n 2, 1) := by decide +kernel
theorem dX7_send_23 : decode cX7_send 23 = .ok (.iaload, 1) := by decide +kernel
theorem dX7_send_24 : decode cX7_send 24 = .ok (.aload_n 0, 1) := by decide +kernel
theorem dX7_send_25 : decode cX7_send 25 = .ok (.bipush 6, 2) := by decide +kernel
theorem dX7_send_27 : decode cX7_send 27 = .ok (.invokevirtual 94, 3) := by decide +kernel
theorem dX7_send_30 : decode cX7_send 30 = .ok (.ifCond .ne 7, 3) := by decide +kernel
theorem dX7_send_33 : decode cX7_send 33 = .ok (.iconst 1, 1) := by decide +kernel
theorem dX7_send_34 : decode cX7_send 34 = .ok (.goto 4, 3) := by decide +kernel
theorem dX7_send_37 : decode cX7_send 37 = .ok (.iconst 0, 1) := by decide +kernel
theorem dX7_send_38 : decode cX7_send 38 = .ok (.isub, 1) := by decide +kernel
theorem dX7_send_39 : decode cX7_send 39 = .ok (.aload_n 0, 1) := by decide +kernel
theorem dX7_send_40 : decode cX7_send 40 = .ok (.bipush 12, 2) := by decide +kernel
theorem dX7_send_42 : decode cX7_send 42 = .ok (.invokevirtual 94, 3) := by decide +kernel
theorem dX7_send_45 : decode cX7_send 45 = .ok (.ifCond .ne 7, 3) := by decide +kernel
theorem dX7_send_48 : decode cX7_send 48 = .ok (.iconst 1, 1) := by decide +kernel
theorem dX7_send_49 : decode cX7_send 49 = .ok (.goto 4, 3) := by decide +kernel
theorem dX7_send_52 : decode cX7_send 52 = .ok (.iconst 0, 1) := by decide +kernel
theorem dX7_send_53 : decode cX7_send 53 = .ok (.iadd, 1) := by decide +kernel
theorem dX7_send_54 : decode cX7_send 54 = .ok (.istore_n 3, 1) := by decide +kernel
theorem dX7_send_55 : decode cX7_send 55 = .ok (.aload_n 0, 1) := by decide +kernel
theorem dX7_send_56 : decode cX7_send 56 = .ok (.iconst 3, 1) := by decide +kernel
theorem dX7_send_57 : decode cX7_send 57 = .ok (.invokevirtual 94, 3) := by decide +kernel
theorem dX7_send_60 : decode cX7_send 60 = .ok (.ifCond .ne 7, 3) := by decide +kernel
theorem dX7_send_63 : decode cX7_send 63 = .ok (.iconst (-1), 1) := by decide +kernel
theorem dX7_send_64 : decode cX7_send 64 = .ok (.goto 8, 3) := by decide +kernel
theorem dX7_send_67 : decode cX7_send 67 = .ok (.aload_n 0, 1) := by decide +kernel
theorem dX7_send_68 : decode cX7_send 68 = .ok (.iconst 4, 1) := by decide +kernel
theorem dX7_send_69 : decode cX7_send 69 = .ok (.invokevirtual 94, 3) := by decide +kernel
theorem dX7_send_72 : decode cX7_send 72 = .ok (.istore 4, 2) := by decide +kernel
theorem dX7_send_74 : decode cX7_send 74 = .ok (.aload_n 0, 1) := by decide +kernel
theorem dX7_send_75 : decode cX7_send 75 = .ok (.sipush 1000, 3) := by decide +kernel
theorem dX7_send_78 : decode cX7_send 78 = .ok (.invokevirtual 94, 3) := by decide +kernel
theorem dX7_send_81 : decode cX7_send 81 = .ok (.istore 5, 2) := by decide +kernel
theorem dX7_send_83 : decode cX7_send 83 = .ok (.iload_n 3, 1) := by decide +kernel
theorem dX7_send_84 : decode cX7_send 84 = .ok (.ifCond .lt 19, 3) := by decide +kernel
theorem dX7_send_87 : decode cX7_send 87 = .ok (.iload_n 3, 1) := by decide +kernel
theorem dX7_send_88 : decode cX7_send 88 = .ok (.aload_n 0, 1) := by decide +kernel
theorem dX7_send_89 : decode cX7_send 89 = .ok (.getfield 42, 3) := by decide +kernel
theorem dX7_send_92 : decode cX7_send 92 = .ok (.iload_n 1, 1) := by decide +kernel
theorem dX7_send_93 : decode cX7_send 93 = .ok (.aaload, 1) := by decide +kernel
theorem dX7_send_94 : decode cX7_send 94 = .ok (.iload_n 2, 1) := by decide +kernel
theorem dX7_send_95 : decode cX7_send 95 = .ok (.iaload, 1) := by decide +kernel
theorem dX7_send_96 : decode cX7_send 96 = .ok (.if_icmp .ge 7, 3) := by decide +kernel
theorem dX7_send_99 : decode cX7_send 99 = .ok (.iconst 1, 1) := by decide +kernel
theorem dX7_send_100 : decode cX7_send 100 = .ok (.goto 4, 3) := by decide +kernel
theorem dX7_send_103 : decode cX7_send 103 = .ok (.iconst 0, 1) := by decide +kernel
theorem dX7_send_104 : decode cX7_send 104 = .ok (.istore 6, 2) := by decide +kernel
theorem dX7_send_106 : decode cX7_send 106 = .ok (.iload_n 3, 1) := by decide +kernel
theorem dX7_send_107 : decode cX7_send 107 = .ok (.ifCond .lt 33, 3) := by decide +kernel
theorem dX7_send_110 : decode cX7_send 110 = .ok (.iload 6, 2) := by decide +kernel
theorem dX7_send_112 : decode cX7_send 112 = .ok (.ifCond .ne 24, 3) := by decide +kernel
theorem dX7_send_115 : decode cX7_send 115 = .ok (.iload_n 3, 1) := by decide +kernel
theorem dX7_send_116 : decode cX7_send 116 = .ok (.aload_n 0, 1) := by decide +kernel
theorem dX7_send_117 : decode cX7_send 117 = .ok (.getfield 42, 3) := by decide +kernel
theorem dX7_send_120 : decode cX7_send 120 = .ok (.iload_n 1, 1) := by decide +kernel
theorem dX7_send_121 : decode cX7_send 121 = .ok (.aaload, 1) := by decide +kernel
theorem dX7_send_122 : decode cX7_send 122 = .ok (.iload_n 2, 1) := by decide +kernel
theorem dX7_send_123 : decode cX7_send 123 = .ok (.iaload, 1) := by decide +kernel
theorem dX7_send_124 : decode cX7_send 124 = .ok (.if_icmp .ne 16, 3) := by decide +kernel
theorem dX7_send_127 : decode cX7_send 127 = .ok (.aload_n 0, 1) := by decide +kernel
theorem dX7_send_128 : decode cX7_send 128 = .ok (.getfield 112, 3) := by decide +kernel
theorem dX7_send_131 : decode cX7_send 131 = .ok (.bipush 80, 2) := by decide +kernel
theorem dX7_send_133 : decode cX7_send 133 = .ok (.if_icmp .ge 7, 3) := by decide +kernel
theorem dX7_send_136 : decode cX7_send 136 = .ok (.iconst 1, 1) := by decide +kernel
theorem dX7_send_137 : decode cX7_send 137 = .ok (.goto 4, 3) := by decide +kernel
theorem dX7_send_140 : decode cX7_send 140 = .ok (.iconst 0, 1) := by decide +kernel
theorem dX7_send_141 : decode cX7_send 141 = .ok (.istore 7, 2) := by decide +kernel
theorem dX7_send_143 : decode cX7_send 143 = .ok (.aload_n 0, 1) := by decide +kernel
theorem dX7_send_144 : decode cX7_send 144 = .ok (.getfield 10, 3) := by decide +kernel
theorem dX7_send_147 : decode cX7_send 147 = .ok (.iload_n 1, 1) := by decide +kernel
theorem dX7_send_148 : decode cX7_send 148 = .ok (.iload_n 2, 1) := by decide +kernel
theorem dX7_send_149 : decode cX7_send 149 = .ok (.iload_n 3, 1) := by decide +kernel
theorem dX7_send_150 : decode cX7_send 150 = .ok (.iload 4, 2) := by decide +kernel
theorem dX7_send_152 : decode cX7_send 152 = .ok (.iload 5, 2) := by decide +kernel
theorem dX7_send_154 : decode cX7_send 154 = .ok (.invokevirtual 115, 3) := by decide +kernel
theorem dX7_send_157 : decode cX7_send 157 = .ok (.istore 8, 2) := by decide +kernel
theorem dX7_send_159 : decode cX7_send 159 = .ok (.iload 6, 2) := by decide +kernel
theorem dX7_send_161 : decode cX7_send 161 = .ok (.ifCond .eq 21, 3) := by decide +kernel
theorem dX7_send_164 : decode cX7_send 164 = .ok (.iload 7, 2) := by decide +kernel
theorem dX7_send_166 : decode cX7_send 166 = .ok (.ifCond .eq 14, 3) := by decide +kernel
theorem dX7_send_169 : decode cX7_send 169 = .ok (.iload 8, 2) := by decide +kernel
theorem dX7_send_171 : decode cX7_send 171 = .ok (.bipush (-2), 2) := by decide +kernel
theorem dX7_send_173 : decode cX7_send 173 = .ok (.if_icmp .ne 7, 3) := by decide +kernel
theorem dX7_send_176 : decode cX7_send 176 = .ok (.iconst 1, 1) := by decide +kernel
theorem dX7_send_177 : decode cX7_send 177 = .ok (.goto 4, 3) := by decide +kernel
theorem dX7_send_180 : decode cX7_send 180 = .ok (.iconst 0, 1) := by decide +kernel
theorem dX7_send_181 : decode cX7_send 181 = .ok (.ireturn, 1) := by decide +kernel
theorem dX7_send_182 : decode cX7_send 182 = .ok (.iload 4, 2) := by decide +kernel
theorem dX7_send_184 : decode cX7_send 184 = .ok (.ifCond .ge 7, 3) := by decide +kernel
theorem dX7_send_187 : decode cX7_send 187 = .ok (.iconst 0, 1) := by decide +kernel
theorem dX7_send_188 : decode cX7_send 188 = .ok (.goto 13, 3) := by decide +kernel
theorem dX7_send_191 : decode cX7_send 191 = .ok (.iload 4, 2) := by decide +kernel
theorem dX7_send_193 : decode cX7_send 193 = .ok (.aload_n 0, 1) := by decide +kernel
theorem dX7_send_194 : decode cX7_send 194 = .ok (.getfield 25, 3) := by decide +kernel
theorem dX7_send_197 : decode cX7_send 197 = .ok (.iload_n 1, 1) := by decide +kernel
theorem dX7_send_198 : decode cX7_send 198 = .ok (.aaload, 1) := by decide +kernel
theorem dX7_send_199 : decode cX7_send 199 = .ok (.arraylength, 1) := by decide +kernel
theorem dX7_send_200 : decode cX7_send 200 = .ok (.irem, 1) := by decide +kernel
theorem dX7_send_201 : decode cX7_send 201 = .ok (.istore 9, 2) := by decide +kernel
theorem dX7_send_203 : decode cX7_send 203 = .ok (.iconst 1, 1) := by decide +kernel
theorem dX7_send_204 : decode cX7_send 204 = .ok (.istore 10, 2) := by decide +kernel
theorem dX7_send_206 : decode cX7_send 206 = .ok (.iload 10, 2) := by decide +kernel
theorem dX7_send_208 : decode cX7_send 208 = .ok (.aload_n 0, 1) := by decide +kernel
theorem dX7_send_209 : decode cX7_send 209 = .ok (.getfield 25, 3) := by decide +kernel
theorem dX7_send_212 : decode cX7_send 212 = .ok (.iload_n 1, 1) := by decide +kernel
theorem dX7_send_213 : decode cX7_send 213 = .ok (.aaload, 1) := by decide +kernel
theorem dX7_send_214 : decode cX7_send 214 = .ok (.arraylength, 1) := by decide +kernel
theorem dX7_send_215 : decode cX7_send 215 = .ok (.if_icmp .ge 41, 3) := by decide +kernel
theorem dX7_send_218 : decode cX7_send 218 = .ok (.iload 4, 2) := by decide +kernel
theorem dX7_send_220 : decode cX7_send 220 = .ok (.ifCond .ge 36, 3) := by decide +kernel
theorem dX7_send_223 : decode cX7_send 223 = .ok (.aload_n 0, 1) := by decide +kernel
theorem dX7_send_224 : decode cX7_send 224 = .ok (.getfield 25, 3) := by decide +kernel
theorem dX7_send_227 : decode cX7_send 227 = .ok (.iload_n 1, 1) := by decide +kernel
theorem dX7_send_228 : decode cX7_send 228 = .ok (.aaload, 1) := by decide +kernel
theorem dX7_send_229 : decode cX7_send 229 = .ok (.iload 10, 2) := by decide +kernel
theorem dX7_send_231 : decode cX7_send 231 = .ok (.aaload, 1) := by decide +kernel
theorem dX7_send_232 : decode cX7_send 232 = .ok (.arraylength, 1) := by decide +kernel
theorem dX7_send_233 : decode cX7_send 233 = .ok (.aload_n 0, 1) := by decide +kernel
theorem dX7_send_234 : decode cX7_send 234 = .ok (.getfield 25, 3) := by decide +kernel
theorem dX7_send_237 : decode cX7_send 237 = .ok (.iload_n 1, 1) := by decide +kernel
theorem dX7_send_238 : decode cX7_send 238 = .ok (.aaload, 1) := by decide +kernel
theorem dX7_send_239 : decode cX7_send 239 = .ok (.iload 9, 2) := by decide +kernel
theorem dX7_send_241 : decode cX7_send 241 = .ok (.aaload, 1) := by decide +kernel
theorem dX7_send_242 : decode cX7_send 242 = .ok (.arraylength, 1) := by decide +kernel
theorem dX7_send_243 : decode cX7_send 243 = .ok (.if_icmp .ge 7, 3) := by decide +kernel
theorem dX7_send_246 : decode cX7_send 246 = .ok (.iload 10, 2) := by decide +kernel
theorem dX7_send_248 : decode cX7_send 248 = .ok (.istore 9, 2) := by decide +kernel
theorem dX7_send_250 : decode cX7_send 250 = .ok (.iinc 10 1, 3) := by decide +kernel
theorem dX7_send_253 : decode cX7_send 253 = .ok (.goto (-47), 3) := by decide +kernel
theorem dX7_send_256 : decode cX7_send 256 = .ok (.bipush 17, 2) := by decide +kernel
theorem dX7_send_258 : decode cX7_send 258 = .ok (.newarray .int, 2) := by decide +kernel
theorem dX7_send_260 : decode cX7_send 260 = .ok (.astore 10, 2) := by decide +kernel
theorem dX7_send_262 : decode cX7_send 262 = .ok (.aload 10, 2) := by decide +kernel
theorem dX7_send_264 : decode cX7_send 264 = .ok (.iconst 0, 1) := by decide +kernel
theorem dX7_send_265 : decode cX7_send 265 = .ok (.iload 4, 2) := by decide +kernel
theorem dX7_send_267 : decode cX7_send 267 = .ok (.iastore, 1) := by decide +kernel
theorem dX7_send_268 : decode cX7_send 268 = .ok (.aload 10, 2) := by decide +kernel
theorem dX7_send_270 : decode cX7_send 270 = .ok (.iconst 1, 1) := by decide +kernel
theorem dX7_send_271 : decode cX7_send 271 = .ok (.iload 5, 2) := by decide +kernel
theorem dX7_send_273 : decode cX7_send 273 = .ok (.iastore, 1) := by decide +kernel
theorem dX7_send_274 : decode cX7_send 274 = .ok (.aload 10, 2) := by decide +kernel
theorem dX7_send_276 : decode cX7_send 276 = .ok (.iconst 2, 1) := by decide +kernel
theorem dX7_send_277 : decode cX7_send 277 = .ok (.aload_n 0, 1) := by decide +kernel
theorem dX7_send_278 : decode cX7_send 278 = .ok (.getfield 119, 3) := by decide +kernel
theorem dX7_send_281 : decode cX7_send 281 = .ok (.iastore, 1) := by decide +kernel
theorem dX7_send_282 : decode cX7_send 282 = .ok (.aload 10, 2) := by decide +kernel
theorem dX7_send_284 : decode cX7_send 284 = .ok (.iconst 3, 1) := by decide +kernel
theorem dX7_send_285 : decode cX7_send 285 = .ok (.aload_n 0, 1) := by decide +kernel
theorem dX7_send_286 : decode cX7_send 286 = .ok (.getfield 48, 3) := by decide +kernel
theorem dX7_send_289 : decode cX7_send 289 = .ok (.iload_n 2, 1) := by decide +kernel
theorem dX7_send_290 : decode cX7_send 290 = .ok (.iaload, 1) := by decide +kernel
theorem dX7_send_291 : decode cX7_send 291 = .ok (.iastore, 1) := by decide +kernel
theorem dX7_send_292 : decode cX7_send 292 = .ok (.aload_n 0, 1) := by decide +kernel
theorem dX7_send_293 : decode cX7_send 293 = .ok (.getfield 25, 3) := by decide +kernel
theorem dX7_send_296 : decode cX7_send 296 = .ok (.iload_n 1, 1) := by decide +kernel
theorem dX7_send_297 : decode cX7_send 297 = .ok (.aaload, 1) := by decide +kernel
theorem dX7_send_298 : decode cX7_send 298 = .ok (.iload 9, 2) := by decide +kernel
theorem dX7_send_300 : decode cX7_send 300 = .ok (.aload_n 0, 1) := by decide +kernel
theorem dX7_send_301 : decode cX7_send 301 = .ok (.getfield 25, 3) := by decide +kernel
theorem dX7_send_304 : decode cX7_send 304 = .ok (.iload_n 1, 1) := by decide +kernel
theorem dX7_send_305 : decode cX7_send 305 = .ok (.aaload, 1) := by decide +kernel
theorem dX7_send_306 : decode cX7_send 306 = .ok (.iload 9, 2) := by decide +kernel
theorem dX7_send_308 : decode cX7_send 308 = .ok (.aaload, 1) := by decide +kernel
theorem dX7_send_309 : decode cX7_send 309 = .ok (.aload 10, 2) := by decide +kernel
theorem dX7_send_311 : decode cX7_send 311 = .ok (.invokestatic 122, 3) := by decide +kernel
theorem dX7_send_314 : decode cX7_send 314 = .ok (.aastore, 1) := by decide +kernel
theorem dX7_send_315 : decode cX7_send 315 = .ok (.aload_n 0, 1) := by decide +kernel
theorem dX7_send_316 : decode cX7_send 316 = .ok (.getfield 42, 3) := by decide +kernel
theorem dX7_send_319 : decode cX7_send 319 = .ok (.iload_n 1, 1) := by decide +kernel
theorem dX7_send_320 : decode cX7_send 320 = .ok (.aaload, 1) := by decide +kernel
theorem dX7_send_321 : decode cX7_send 321 = .ok (.iload_n 2, 1) := by decide +kernel
theorem dX7_send_322 : decode cX7_send 322 = .ok (.dup2, 1) := by decide +kernel
theorem dX7_send_323 : decode cX7_send 323 = .ok (.iaload, 1) := by decide +kernel
theorem dX7_send_324 : decode cX7_send 324 = .ok (.iconst 1, 1) := by decide +kernel
theorem dX7_send_325 : decode cX7_send 325 = .ok (.iadd, 1) := by decide +kernel
theorem dX7_send_326 : decode cX7_send 326 = .ok (.iastore, 1) := by decide +kernel
theorem dX7_send_327 : decode cX7_send 327 = .ok (.aload_n 0, 1) := by decide +kernel
theorem dX7_send_328 : decode cX7_send 328 = .ok (.dup, 1) := by decide +kernel
theorem dX7_send_329 : decode cX7_send 329 = .ok (.getfield 112, 3) := by decide +kernel
theorem dX7_send_332 : decode cX7_send 332 = .ok (.iconst 1, 1) := by decide +kernel
theorem dX7_send_333 : decode cX7_send 333 = .ok (.iadd, 1) := by decide +kernel
theorem dX7_send_334 : decode cX7_send 334 = .ok (.putfield 112, 3) := by decide +kernel
theorem dX7_send_337 : decode cX7_send 337 = .ok (.aload_n 0, 1) := by decide +kernel
theorem dX7_send_338 : decode cX7_send 338 = .ok (.invokevirtual 126, 3) := by decide +kernel
theorem dX7_send_341 : decode cX7_send 341 = .ok (.iload 7, 2) := by decide +kernel
theorem dX7_send_343 : decode cX7_send 343 = .ok (.ifCond .eq 24, 3) := by decide +kernel
theorem dX7_send_346 : decode cX7_send 346 = .ok (.iload 8, 2) := by decide +kernel
theorem dX7_send_348 : decode cX7_send 348 = .ok (.aload_n 0, 1) := by decide +kernel
theorem dX7_send_349 : decode cX7_send 349 = .ok (.getfield 25, 3) := by decide +kernel
theorem dX7_send_352 : decode cX7_send 352 = .ok (.iload_n 1, 1) := by decide +kernel
theorem dX7_send_353 : decode cX7_send 353 = .ok (.aaload, 1) := by decide +kernel
theorem dX7_send_354 : decode cX7_send 354 = .ok (.iload 9, 2) := by decide +kernel
theorem dX7_send_356 : decode cX7_send 356 = .ok (.aaload, 1) := by decide +kernel
theorem dX7_send_357 : decode cX7_send 357 = .ok (.arraylength, 1) := by decide +kernel
theorem dX7_send_358 : decode cX7_send 358 = .ok (.iconst 1, 1) := by decide +kernel
theorem dX7_send_359 : decode cX7_send 359 = .ok (.isub, 1) := by decide +kernel
theorem dX7_send_360 : decode cX7_send 360 = .ok (.if_icmp .ne 7, 3) := by decide +kernel
theorem dX7_send_363 : decode cX7_send 363 = .ok (.iconst 1, 1) := by decide +kernel
theorem dX7_send_364 : decode cX7_send 364 = .ok (.goto 4, 3) := by decide +kernel
theorem dX7_send_367 : decode cX7_send 367 = .ok (.iconst 0, 1) := by decide +kernel
theorem dX7_send_368 : decode cX7_send 368 = .ok (.ireturn, 1) := by decide +kernel
theorem dX7_send_369 : decode cX7_send 369 = .ok (.astore 8, 2) := by decide +kernel
theorem dX7_send_371 : decode cX7_send 371 = .ok (.iload_n 3, 1) := by decide +kernel
theorem dX7_send_372 : decode cX7_send 372 = .ok (.ifCond .ge 7, 3) := by decide +kernel
theorem dX7_send_375 : decode cX7_send 375 = .ok (.iconst 1, 1) := by decide +kernel
theorem dX7_send_376 : decode cX7_send 376 = .ok (.goto 4, 3) := by decide +kernel
theorem dX7_send_379 : decode cX7_send 379 = .ok (.iconst 0, 1) := by decide +kernel
theorem dX7_send_380 : decode cX7_send 380 = .ok (.ireturn, 1) := by decide +kernel
theorem dX7_send_381 : decode cX7_send 381 = .ok (.astore 8, 2) := by decide +kernel
theorem dX7_send_383 : decode cX7_send 383 = .ok (.iload 7, 2) := by decide +kernel
theorem dX7_send_385 : decode cX7_send 385 = .ok (.ifCond .ne 11, 3) := by decide +kernel
theorem dX7_send_388 : decode cX7_send 388 = .ok (.iload_n 3, 1) := by decide +kernel
theorem dX7_send_389 : decode cX7_send 389 = .ok (.ifCond .lt 7, 3) := by decide +kernel
theorem dX7_send_392 : decode cX7_send 392 = .ok (.iconst 1, 1) := by decide +kernel
theorem dX7_send_393 : decode cX7_send 393 = .ok (.goto 4, 3) := by decide +kernel
theorem dX7_send_396 : decode cX7_send 396 = .ok (.iconst 0, 1) := by decide +kernel
theorem dX7_send_397 : decode cX7_send 397 = .ok (.ireturn, 1) := by decide +kernel
theorem dX7_begin_0 : decode cX7_begin 0 = .ok (.aload_n 0, 1) := by decide +kernel
theorem dX7_begin_1 : decode cX7_begin 1 = .ok (.iconst 4, 1) := by decide +kernel
theorem dX7_begin_2 : decode cX7_begin 2 = .ok (.invokevirtual 94, 3) := by decide +kernel
theorem dX7_begin_5 : decode cX7_begin 5 = .ok (.istore_n 1, 1) := by decide +kernel
theorem dX7_begin_6 : decode cX7_begin 6 = .ok (.aload_n 0, 1) := by decide +kernel
theorem dX7_begin_7 : decode cX7_begin 7 = .ok (.getfield 48, 3) := by decide +kernel
theorem dX7_begin_10 : decode cX7_begin 10 = .ok (.iload_n 1, 1) := by decide +kernel
theorem dX7_begin_11 : decode cX7_begin 11 = .ok (.iaload, 1) := by decide +kernel
theorem dX7_begin_12 : decode cX7_begin 12 = .ok (.ifCond .lt 9, 3) := by decide +kernel
theorem dX7_begin_15 : decode cX7_begin 15 = .ok (.aload_n 0, 1) := by decide +kernel
theorem dX7_begin_16 : decode cX7_begin 16 = .ok (.iload_n 1, 1) := by decide +kernel
theorem dX7_begin_17 : decode cX7_begin 17 = .ok (.invokevirtual 133, 3) := by decide +kernel
theorem dX7_begin_20 : decode cX7_begin 20 = .ok (.ireturn, 1) := by decide +kernel
theorem dX7_begin_21 : decode cX7_begin 21 = .ok (.aload_n 0, 1) := by decide +kernel
theorem dX7_begin_22 : decode cX7_begin 22 = .ok (.getfield 48, 3) := by decide +kernel
theorem dX7_begin_25 : decode cX7_begin 25 = .ok (.iload_n 1, 1) := by decide +kernel
theorem dX7_begin_26 : decode cX7_begin 26 = .ok (.aload_n 0, 1) := by decide +kernel
theorem dX7_begin_27 : decode cX7_begin 27 = .ok (.dup, 1) := by decide +kernel
theorem dX7_begin_28 : decode cX7_begin 28 = .ok (.getfield 137, 3) := by decide +kernel
theorem dX7_begin_31 : decode cX7_begin 31 = .ok (.dup_x1, 1) := by decide +kernel
theorem dX7_begin_32 : decode cX7_begin 32 = .ok (.iconst 1, 1) := by decide +kernel
theorem dX7_begin_33 : decode cX7_begin 33 = .ok (.iadd, 1) := by decide +kernel
theorem dX7_begin_34 : decode cX7_begin 34 = .ok (.putfield 137, 3) := by decide +kernel
theorem dX7_begin_37 : decode cX7_begin 37 = .ok (.iastore, 1) := by decide +kernel
theorem dX7_begin_38 : decode cX7_begin 38 = .ok (.aload_n 0, 1) := by decide +kernel
theorem dX7_begin_39 : decode cX7_begin 39 = .ok (.getfield 10, 3) := by decide +kernel
theorem dX7_begin_42 : decode cX7_begin 42 = .ok (.iload_n 1, 1) := by decide +kernel
theorem dX7_begin_43 : decode cX7_begin 43 = .ok (.invokevirtual 140, 3) := by decide +kernel
theorem dX7_begin_46 : decode cX7_begin 46 = .ok (.aload_n 0, 1) := by decide +kernel
theorem dX7_begin_47 : decode cX7_begin 47 = .ok (.getfield 137, 3) := by decide +kernel
theorem dX7_begin_50 : decode cX7_begin 50 = .ok (.if_icmp .ne 7, 3) := by decide +kernel
theorem dX7_begin_53 : decode cX7_begin 53 = .ok (.iconst 1, 1) := by decide +kernel
theorem dX7_begin_54 : decode cX7_begin 54 = .ok (.goto 4, 3) := by decide +kernel
theorem dX7_begin_57 : decode cX7_begin 57 = .ok (.iconst 0, 1) := by decide +kernel
theorem dX7_begin_58 : decode cX7_begin 58 = .ok (.ireturn, 1) := by decide +kernel
theorem dX7_end_0 : decode cX7_end 0 = .ok (.aload_n 0, 1) := by decide +kernel
theorem dX7_end_1 : decode cX7_end 1 = .ok (.getfield 48, 3) := by decide +kernel
theorem dX7_end_4 : decode cX7_end 4 = .ok (.iload_n 1, 1) := by decide +kernel
theorem dX7_end_5 : decode cX7_end 5 = .ok (.iaload, 1) := by decide +kernel
theorem dX7_end_6 : decode cX7_end 6 = .ok (.istore_n 2, 1) := by decide +kernel
theorem dX7_end_7 : decode cX7_end 7 = .ok (.aload_n 0, 1) := by decide +kernel
theorem dX7_end_8 : decode cX7_end 8 = .ok (.getfield 45, 3) := by decide +kernel
theorem dX7_end_11 : decode cX7_end 11 = .ok (.iload_n 2, 1) := by decide +kernel
theorem dX7_end_12 : decode cX7_end 12 = .ok (.iconst 1, 1) := by decide +kernel
theorem dX7_end_13 : decode cX7_end 13 = .ok (.aload_n 0, 1) := by decide +kernel
theorem dX7_end_14 : decode cX7_end 14 = .ok (.iconst 2, 1) := by decide +kernel
theorem dX7_end_15 : decode cX7_end 15 = .ok (.invokevirtual 94, 3) := by decide +kernel
theorem dX7_end_18 : decode cX7_end 18 = .ok (.iadd, 1) := by decide +kernel
theorem dX7_end_19 : decode cX7_end 19 = .ok (.iastore, 1) := by decide +kernel
theorem dX7_end_20 : decode cX7_end 20 = .ok (.aload_n 0, 1) := by decide +kernel
theorem dX7_end_21 : decode cX7_end 21 = .ok (.getfield 48, 3) := by decide +kernel
theorem dX7_end_24 : decode cX7_end 24 = .ok (.iload_n 1, 1) := by decide +kernel
theorem dX7_end_25 : decode cX7_end 25 = .ok (.iconst (-1), 1) := by decide +kernel
theorem dX7_end_26 : decode cX7_end 26 = .ok (.iastore, 1) := by decide +kernel
theorem dX7_end_27 : decode cX7_end 27 = .ok (.iconst 0, 1) := by decide +kernel
theorem dX7_end_28 : decode cX7_end 28 = .ok (.istore_n 3, 1) := by decide +kernel
theorem dX7_end_29 : decode cX7_end 29 = .ok (.aload_n 0, 1) := by decide +kernel
theorem dX7_end_30 : decode cX7_end 30 = .ok (.getfield 25, 3) := by decide +kernel
theorem dX7_end_33 : decode cX7_end 33 = .ok (.astore 4, 2) := by decide +kernel
theorem dX7_end_35 : decode cX7_end 35 = .ok (.aload 4, 2) := by decide +kernel
theorem dX7_end_37 : decode cX7_end 37 = .ok (.arraylength, 1) := by decide +kernel
theorem dX7_end_38 : decode cX7_end 38 = .ok (.istore 5, 2) := by decide +kernel
theorem dX7_end_40 : decode cX7_end 40 = .ok (.iconst 0, 1) := by decide +kernel
theorem dX7_end_41 : decode cX7_end 41 = .ok (.istore 6, 2) := by decide +kernel
theorem dX7_end_43 : decode cX7_end 43 = .ok (.iload 6, 2) := by decide +kernel
theorem dX7_end_45 : decode cX7_end 45 = .ok (.iload 5, 2) := by decide +kernel
theorem dX7_end_47 : decode cX7_end 47 = .ok (.if_icmp .ge 96, 3) := by decide +kernel
theorem dX7_end_50 : decode cX7_end 50 = .ok (.aload 4, 2) := by decide +kernel
theorem dX7_end_52 : decode cX7_end 52 = .ok (.iload 6, 2) := by decide +kernel
theorem dX7_end_54 : decode cX7_end 54 = .ok (.aaload, 1) := by decide +kernel
theorem dX7_end_55 : decode cX7_end 55 = .ok (.astore 7, 2) := by decide +kernel
theorem dX7_end_57 : decode cX7_end 57 = .ok (.aload 7, 2) := by decide +kernel
theorem dX7_end_59 : decode cX7_end 59 = .ok (.astore 8, 2) := by decide +kernel
theorem dX7_end_61 : decode cX7_end 61 = .ok (.aload 8, 2) := by decide +kernel
theorem dX7_end_63 : decode cX7_end 63 = .ok (.arraylength, 1) := by decide +kernel
theorem dX7_end_64 : decode cX7_end 64 = .ok (.istore 9, 2) := by decide +kernel
theorem dX7_end_66 : decode cX7_end 66 = .ok (.iconst 0, 1) := by decide +kernel
theorem dX7_end_67 : decode cX7_end 67 = .ok (.istore 10, 2) := by decide +kernel
theorem dX7_end_69 : decode cX7_end 69 = .ok (.iload 10, 2) := by decide +kernel
theorem dX7_end_71 : decode cX7_end 71 = .ok (.iload 9, 2) := by decide +kernel
theorem dX7_end_73 : decode cX7_end 73 = .ok (.if_icmp .ge 64, 3) := by decide +kernel
theorem dX7_end_76 : decode cX7_end 76 = .ok (.aload 8, 2) := by decide +kernel
theorem dX7_end_78 : decode cX7_end 78 = .ok (.iload 10, 2) := by decide +kernel
theorem dX7_end_80 : decode cX7_end 80 = .ok (.aaload, 1) := by decide +kernel
theorem dX7_end_81 : decode cX7_end 81 = .ok (.astore 11, 2) := by decide +kernel
theorem dX7_end_83 : decode cX7_end 83 = .ok (.aload 11, 2) := by decide +kernel
theorem dX7_end_85 : decode cX7_end 85 = .ok (.astore 12, 2) := by decide +kernel
theorem dX7_end_87 : decode cX7_end 87 = .ok (.aload 12, 2) := by decide +kernel
theorem dX7_end_89 : decode cX7_end 89 = .ok (.arraylength, 1) := by decide +kernel
theorem dX7_end_90 : decode cX7_end 90 = .ok (.istore 13, 2) := by decide +kernel
theorem dX7_end_92 : decode cX7_end 92 = .ok (.iconst 0, 1) := by decide +kernel
theorem dX7_end_93 : decode cX7_end 93 = .ok (.istore 14, 2) := by decide +kernel
theorem dX7_end_95 : decode cX7_end 95 = .ok (.iload 14, 2) := by decide +kernel
theorem dX7_end_97 : decode cX7_end 97 = .ok (.iload 13, 2) := by decide +kernel
theorem dX7_end_99 : decode cX7_end 99 = .ok (.if_icmp .ge 32, 3) := by decide +kernel
theorem dX7_end_102 : decode cX7_end 102 = .ok (.aload 12, 2) := by decide +kernel
theorem dX7_end_104 : decode cX7_end 104 = .ok (.iload 14, 2) := by decide +kernel
theorem dX7_end_106 : decode cX7_end 106 = .ok (.aaload, 1) := by decide +kernel
theorem dX7_end_107 : decode cX7_end 107 = .ok (.astore 15, 2) := by decide +kernel
theorem dX7_end_109 : decode cX7_end 109 = .ok (.iload_n 3, 1) := by decide +kernel
theorem dX7_end_110 : decode cX7_end 110 = .ok (.aload 15, 2) := by decide +kernel
theorem dX7_end_112 : decode cX7_end 112 = .ok (.iconst 3, 1) := by decide +kernel
theorem dX7_end_113 : decode cX7_end 113 = .ok (.iaload, 1) := by decide +kernel
theorem dX7_end_114 : decode cX7_end 114 = .ok (.iload_n 2, 1) := by decide +kernel
theorem dX7_end_115 : decode cX7_end 115 = .ok (.if_icmp .ne 7, 3) := by decide +kernel
theorem dX7_end_118 : decode cX7_end 118 = .ok (.iconst 1, 1) := by decide +kernel
theorem dX7_end_119 : decode cX7_end 119 = .ok (.goto 4, 3) := by decide +kernel
theorem dX7_end_122 : decode cX7_end 122 = .ok (.iconst 0, 1) := by decide +kernel
theorem dX7_end_123 : decode cX7_end 123 = .ok (.iadd, 1) := by decide +kernel
theorem dX7_end_124 : decode cX7_end 124 = .ok (.istore_n 3, 1) := by decide +kernel
theorem dX7_end_125 : decode cX7_end 125 = .ok (.iinc 14 1, 3) := by decide +kernel
theorem dX7_end_128 : decode cX7_end 128 = .ok (.goto (-33), 3) := by decide +kernel
theorem dX7_end_131 : decode cX7_end 131 = .ok (.iinc 10 1, 3) := by decide +kernel
theorem dX7_end_134 : decode cX7_end 134 = .ok (.goto (-65), 3) := by decide +kernel
theorem dX7_end_137 : decode cX7_end 137 = .ok (.iinc 6 1, 3) := by decide +kernel
theorem dX7_end_140 : decode cX7_end 140 = .ok (.goto (-97), 3) := by decide +kernel
theorem dX7_end_143 : decode cX7_end 143 = .ok (.aload_n 0, 1) := by decide +kernel
theorem dX7_end_144 : decode cX7_end 144 = .ok (.invokevirtual 126, 3) := by decide +kernel
theorem dX7_end_147 : decode cX7_end 147 = .ok (.aload_n 0, 1) := by decide +kernel
theorem dX7_end_148 : decode cX7_end 148 = .ok (.getfield 10, 3) := by decide +kernel
theorem dX7_end_151 : decode cX7_end 151 = .ok (.iload_n 1, 1) := by decide +kernel
theorem dX7_end_152 : decode cX7_end 152 = .ok (.aload_n 0, 1) := by decide +kernel
theorem dX7_end_153 : decode cX7_end 153 = .ok (.getfield 45, 3) := by decide +kernel
theorem dX7_end_156 : decode cX7_end 156 = .ok (.iload_n 2, 1) := by decide +kernel
theorem dX7_end_157 : decode cX7_end 157 = .ok (.iaload, 1) := by decide +kernel
theorem dX7_end_158 : decode cX7_end 158 = .ok (.iconst 1, 1) := by decide +kernel
theorem dX7_end_159 : decode cX7_end 159 = .ok (.if_icmp .ne 7, 3) := by decide +kernel
theorem dX7_end_162 : decode cX7_end 162 = .ok (.iconst 1, 1) := by decide +kernel
theorem dX7_end_163 : decode cX7_end 163 = .ok (.goto 4, 3) := by decide +kernel
theorem dX7_end_166 : decode cX7_end 166 = .ok (.iconst 0, 1) := by decide +kernel
theorem dX7_end_167 : decode cX7_end 167 = .ok (.invokevirtual 143, 3) := by decide +kernel
theorem dX7_end_170 : decode cX7_end 170 = .ok (.iload_n 3, 1) := by decide +kernel
theorem dX7_end_171 : decode cX7_end 171 = .ok (.if_icmp .ne 7, 3) := by decide +kernel
theorem dX7_end_174 : decode cX7_end 174 = .ok (.iconst 1, 1) := by decide +kernel
theorem dX7_end_175 : decode cX7_end 175 = .ok (.goto 4, 3) := by decide +kernel
theorem dX7_end_178 : decode cX7_end 178 = .ok (.iconst 0, 1) := by decide +kernel
theorem dX7_end_179 : decode cX7_end 179 = .ok (.ireturn, 1) := by decide +kernel
theorem dX7_forget_0 : decode cX7_forget 0 = .ok (.aload_n 1, 1) := by decide +kernel
theorem dX7_forget_1 : decode cX7_forget 1 = .ok (.iconst 5, 1) := by decide +kernel
theorem dX7_forget_2 : decode cX7_forget 2 = .ok (.iconst 3, 1) := by decide +kernel
theorem dX7_forget_3 : decode cX7_forget 3 = .ok (.iload_n 2, 1) := by decide +kernel
theorem dX7_forget_4 : decode cX7_forget 4 = .ok (.imul, 1) := by decide +kernel
theorem dX7_forget_5 : decode cX7_forget 5 = .ok (.iadd, 1) := by decide +kernel
theorem dX7_forget_6 : decode cX7_forget 6 = .ok (.iconst 0, 1) := by decide +kernel
theorem dX7_forget_7 : decode cX7_forget 7 = .ok (.iastore, 1) := by decide +kernel
theorem dX7_forget_8 : decode cX7_forget 8 = .ok (.aload_n 1, 1) := by decide +kernel
theorem dX7_forget_9 : decode cX7_forget 9 = .ok (.bipush 6, 2) := by decide +kernel
theorem dX7_forget_11 : decode cX7_forget 11 = .ok (.iconst 3, 1) := by decide +kernel
theorem dX7_forget_12 : decode cX7_forget 12 = .ok (.iload_n 2, 1) := by decide +kernel
theorem dX7_forget_13 : decode cX7_forget 13 = .ok (.imul, 1) := by decide +kernel
theorem dX7_forget_14 : decode cX7_forget 14 = .ok (.iadd, 1) := by decide +kernel
theorem dX7_forget_15 : decode cX7_forget 15 = .ok (.iconst 0, 1) := by decide +kernel
theorem dX7_forget_16 : decode cX7_forget 16 = .ok (.iastore, 1) := by decide +kernel
theorem dX7_forget_17 : decode cX7_forget 17 = .ok (.return_, 1) := by decide +kernel
theorem dX7_drop_0 : decode cX7_drop 0 = .ok (.aload_n 1, 1) := by decide +kernel
theorem dX7_drop_1 : decode cX7_drop 1 = .ok (.iconst 4, 1) := by decide +kernel
theorem dX7_drop_2 : decode cX7_drop 2 = .ok (.iconst 1, 1) := by decide +kernel
theorem dX7_drop_3 : decode cX7_drop 3 = .ok (.iastore, 1) := by decide +kernel
theorem dX7_drop_4 : decode cX7_drop 4 = .ok (.iconst 0, 1) := by decide +kernel
theorem dX7_drop_5 : decode cX7_drop 5 = .ok (.istore_n 2, 1) := by decide +kernel
theorem dX7_drop_6 : decode cX7_drop 6 = .ok (.iload_n 2, 1) := by decide +kernel
theorem dX7_drop_7 : decode cX7_drop 7 = .ok (.iconst 4, 1) := by decide +kernel
theorem dX7_drop_8 : decode cX7_drop 8 = .ok (.if_icmp .ge 37, 3) := by decide +kernel
theorem dX7_drop_11 : decode cX7_drop 11 = .ok (.aload_n 1, 1) := by decide +kernel
theorem dX7_drop_12 : decode cX7_drop 12 = .ok (.iconst 5, 1) := by decide +kernel
theorem dX7_drop_13 : decode cX7_drop 13 = .ok (.iconst 3, 1) := by decide +kernel
theorem dX7_drop_14 : decode cX7_drop 14 = .ok (.iload_n 2, 1) := by decide +kernel
theorem dX7_drop_15 : decode cX7_drop 15 = .ok (.imul, 1) := by decide +kernel
theorem dX7_drop_16 : decode cX7_drop 16 = .ok (.iadd, 1) := by decide +kernel
theorem dX7_drop_17 : decode cX7_drop 17 = .ok (.iaload, 1) := by decide +kernel
theorem dX7_drop_18 : decode cX7_drop 18 = .ok (.iconst 1, 1) := by decide +kernel
theorem dX7_drop_19 : decode cX7_drop 19 = .ok (.if_icmp .eq 14, 3) := by decide +kernel
theorem dX7_drop_22 : decode cX7_drop 22 = .ok (.aload_n 1, 1) := by decide +kernel
theorem dX7_drop_23 : decode cX7_drop 23 = .ok (.iconst 5, 1) := by decide +kernel
theorem dX7_drop_24 : decode cX7_drop 24 = .ok (.iconst 3, 1) := by decide +kernel
theorem dX7_drop_25 : decode cX7_drop 25 = .ok (.iload_n 2, 1) := by decide +kernel
theorem dX7_drop_26 : decode cX7_drop 26 = .ok (.imul, 1) := by decide +kernel
theorem dX7_drop_27 : decode cX7_drop 27 = .ok (.iadd, 1) := by decide +kernel
theorem dX7_drop_28 : decode cX7_drop 28 = .ok (.iaload, 1) := by decide +kernel
theorem dX7_drop_29 : decode cX7_drop 29 = .ok (.iconst 2, 1) := by decide +kernel
theorem dX7_drop_30 : decode cX7_drop 30 = .ok (.if_icmp .ne 9, 3) := by decide +kernel
theorem dX7_drop_33 : decode cX7_drop 33 = .ok (.aload_n 0, 1) := by decide +kernel
theorem dX7_drop_34 : decode cX7_drop 34 = .ok (.aload_n 1, 1) := by decide +kernel
theorem dX7_drop_35 : decode cX7_drop 35 = .ok (.iload_n 2, 1) := by decide +kernel
theorem dX7_drop_36 : decode cX7_drop 36 = .ok (.invokevirtual 145, 3) := by decide +kernel
theorem dX7_drop_39 : decode cX7_drop 39 = .ok (.iinc 2 1, 3) := by decide +kernel
theorem dX7_drop_42 : decode cX7_drop 42 = .ok (.goto (-36), 3) := by decide +kernel
theorem dX7_drop_45 : decode cX7_drop 45 = .ok (.return_, 1) := by decide +kernel
theorem dX7_clean_0 : decode cX7_clean 0 = .ok (.iconst 0, 1) := by decide +kernel
theorem dX7_clean_1 : decode cX7_clean 1 = .ok (.istore_n 3, 1) := by decide +kernel
theorem dX7_clean_2 : decode cX7_clean 2 = .ok (.aload_n 0, 1) := by decide +kernel
theorem dX7_clean_3 : decode cX7_clean 3 = .ok (.getfield 25, 3) := by decide +kernel
theorem dX7_clean_6 : decode cX7_clean 6 = .ok (.iload_n 1, 1) := by decide +kernel
theorem dX7_clean_7 : decode cX7_clean 7 = .ok (.aaload, 1) := by decide +kernel
theorem dX7_clean_8 : decode cX7_clean 8 = .ok (.astore 4, 2) := by decide +kernel
theorem dX7_clean_10 : decode cX7_clean 10 = .ok (.aload 4, 2) := by decide +kernel
theorem dX7_clean_12 : decode cX7_clean 12 = .ok (.arraylength, 1) := by decide +kernel
theorem dX7_clean_13 : decode cX7_clean 13 = .ok (.istore 5, 2) := by decide +kernel
theorem dX7_clean_15 : decode cX7_clean 15 = .ok (.iconst 0, 1) := by decide +kernel
theorem dX7_clean_16 : decode cX7_clean 16 = .ok (.istore 6, 2) := by decide +kernel
theorem dX7_clean_18 : decode cX7_clean 18 = .ok (.iload 6, 2) := by decide +kernel
theorem dX7_clean_20 : decode cX7_clean 20 = .ok (.iload 5, 2) := by decide +kernel
theorem dX7_clean_22 : decode cX7_clean 22 = .ok (.if_icmp .ge 158, 3) := by decide +kernel
theorem dX7_clean_25 : decode cX7_clean 25 = .ok (.aload 4, 2) := by decide +kernel
theorem dX7_clean_27 : decode cX7_clean 27 = .ok (.iload 6, 2) := by decide +kernel
theorem dX7_clean_29 : decode cX7_clean 29 = .ok (.aaload, 1) := by decide +kernel
theorem dX7_clean_30 : decode cX7_clean 30 = .ok (.astore 7, 2) := by decide +kernel
theorem dX7_clean_32 : decode cX7_clean 32 = .ok (.aload_n 0, 1) := by decide +kernel
theorem dX7_clean_33 : decode cX7_clean 33 = .ok (.aload 7, 2) := by decide +kernel
theorem dX7_clean_35 : decode cX7_clean 35 = .ok (.invokevirtual 149, 3) := by decide +kernel
theorem dX7_clean_38 : decode cX7_clean 38 = .ok (.istore 8, 2) := by decide +kernel
theorem dX7_clean_40 : decode cX7_clean 40 = .ok (.iconst 0, 1) := by decide +kernel
theorem dX7_clean_41 : decode cX7_clean 41 = .ok (.istore 9, 2) := by decide +kernel
theorem dX7_clean_43 : decode cX7_clean 43 = .ok (.iload 9, 2) := by decide +kernel
theorem dX7_clean_45 : decode cX7_clean 45 = .ok (.iload 8, 2) := by decide +kernel
theorem dX7_clean_47 : decode cX7_clean 47 = .ok (.if_icmp .ge 127, 3) := by decide +kernel
theorem dX7_clean_50 : decode cX7_clean 50 = .ok (.iconst 0, 1) := by decide +kernel
theorem dX7_clean_51 : decode cX7_clean 51 = .ok (.istore 10, 2) := by decide +kernel
theorem dX7_clean_53 : decode cX7_clean 53 = .ok (.iload 9, 2) := by decide +kernel
theorem dX7_clean_55 : decode cX7_clean 55 = .ok (.iconst 1, 1) := by decide +kernel
theorem dX7_clean_56 : decode cX7_clean 56 = .ok (.iadd, 1) := by decide +kernel
theorem dX7_clean_57 : decode cX7_clean 57 = .ok (.istore 11, 2) := by decide +kernel
theorem dX7_clean_59 : decode cX7_clean 59 = .ok (.iload 11, 2) := by decide +kernel
theorem dX7_clean_61 : decode cX7_clean 61 = .ok (.iload 8, 2) := by decide +kernel
theorem dX7_clean_63 : decode cX7_clean 63 = .ok (.if_icmp .ge 48, 3) := by decide +kernel
theorem dX7_clean_66 : decode cX7_clean 66 = .ok (.iload 10, 2) := by decide +kernel
theorem dX7_clean_68 : decode cX7_clean 68 = .ok (.aload 7, 2) := by decide +kernel
theorem dX7_clean_70 : decode cX7_clean 70 = .ok (.iload 11, 2) := by decide +kernel
theorem dX7_clean_72 : decode cX7_clean 72 = .ok (.aaload, 1) := by decide +kernel
theorem dX7_clean_73 : decode cX7_clean 73 = .ok (.iconst 0, 1) := by decide +kernel
theorem dX7_clean_74 : decode cX7_clean 74 = .ok (.iaload, 1) := by decide +kernel
theorem dX7_clean_75 : decode cX7_clean 75 = .ok (.aload 7, 2) := by decide +kernel
theorem dX7_clean_77 : decode cX7_clean 77 = .ok (.iload 9, 2) := by decide +kernel
theorem dX7_clean_79 : decode cX7_clean 79 = .ok (.aaload, 1) := by decide +kernel
theorem dX7_clean_80 : decode cX7_clean 80 = .ok (.iconst 0, 1) := by decide +kernel
theorem dX7_clean_81 : decode cX7_clean 81 = .ok (.iaload, 1) := by decide +kernel
theorem dX7_clean_82 : decode cX7_clean 82 = .ok (.if_icmp .ne 19, 3) := by decide +kernel
theorem dX7_clean_85 : decode cX7_clean 85 = .ok (.aload_n 0, 1) := by decide +kernel
theorem dX7_clean_86 : decode cX7_clean 86 = .ok (.aload 7, 2) := by decide +kernel
theorem dX7_clean_88 : decode cX7_clean 88 = .ok (.iload 11, 2) := by decide +kernel
theorem dX7_clean_90 : decode cX7_clean 90 = .ok (.aaload, 1) := by decide +kernel
theorem dX7_clean_91 : decode cX7_clean 91 = .ok (.invokevirtual 101, 3) := by decide +kernel
theorem dX7_clean_94 : decode cX7_clean 94 = .ok (.ifCond .ne 7, 3) := by decide +kernel
theorem dX7_clean_97 : decode cX7_clean 97 = .ok (.iconst 1, 1) := by decide +kernel
theorem dX7_clean_98 : decode cX7_clean 98 = .ok (.goto 4, 3) := by decide +kernel
theorem dX7_clean_101 : decode cX7_clean 101 = .ok (.iconst 0, 1) := by decide +kernel
theorem dX7_clean_102 : decode cX7_clean 102 = .ok (.ior, 1) := by decide +kernel
theorem dX7_clean_103 : decode cX7_clean 103 = .ok (.istore 10, 2) := by decide +kernel
theorem dX7_clean_105 : decode cX7_clean 105 = .ok (.iinc 11 1, 3) := by decide +kernel
theorem dX7_clean_108 : decode cX7_clean 108 = .ok (.goto (-49), 3) := by decide +kernel
theorem dX7_clean_111 : decode cX7_clean 111 = .ok (.iload 10, 2) := by decide +kernel
theorem dX7_clean_113 : decode cX7_clean 113 = .ok (.ifCond .eq 55, 3) := by decide +kernel
theorem dX7_clean_116 : decode cX7_clean 116 = .ok (.aload 7, 2) := by decide +kernel
theorem dX7_clean_118 : decode cX7_clean 118 = .ok (.iload 9, 2) := by decide +kernel
theorem dX7_clean_120 : decode cX7_clean 120 = .ok (.aaload, 1) := by decide +kernel
theorem dX7_clean_121 : decode cX7_clean 121 = .ok (.iconst 0, 1) := by decide +kernel
theorem dX7_clean_122 : decode cX7_clean 122 = .ok (.iaload, 1) := by decide +kernel
theorem dX7_clean_123 : decode cX7_clean 123 = .ok (.ifCond .lt 45, 3) := by decide +kernel
theorem dX7_clean_126 : decode cX7_clean 126 = .ok (.aload 7, 2) := by decide +kernel
theorem dX7_clean_128 : decode cX7_clean 128 = .ok (.iload 9, 2) := by decide +kernel
theorem dX7_clean_130 : decode cX7_clean 130 = .ok (.aaload, 1) := by decide +kernel
theorem dX7_clean_131 : decode cX7_clean 131 = .ok (.iconst 4, 1) := by decide +kernel
theorem dX7_clean_132 : decode cX7_clean 132 = .ok (.iaload, 1) := by decide +kernel
theorem dX7_clean_133 : decode cX7_clean 133 = .ok (.iconst 1, 1) := by decide +kernel
theorem dX7_clean_134 : decode cX7_clean 134 = .ok (.if_icmp .eq 34, 3) := by decide +kernel
theorem dX7_clean_137 : decode cX7_clean 137 = .ok (.aload_n 0, 1) := by decide +kernel
theorem dX7_clean_138 : decode cX7_clean 138 = .ok (.aload 7, 2) := by decide +kernel
theorem dX7_clean_140 : decode cX7_clean 140 = .ok (.iload 9, 2) := by decide +kernel
theorem dX7_clean_142 : decode cX7_clean 142 = .ok (.aaload, 1) := by decide +kernel
theorem dX7_clean_143 : decode cX7_clean 143 = .ok (.invokevirtual 101, 3) := by decide +kernel
theorem dX7_clean_146 : decode cX7_clean 146 = .ok (.ifCond .eq 6, 3) := by decide +kernel
theorem dX7_clean_149 : decode cX7_clean 149 = .ok (.goto 19, 3) := by decide +kernel
theorem dX7_clean_152 : decode cX7_clean 152 = .ok (.iinc 3 1, 3) := by decide +kernel
theorem dX7_clean_155 : decode cX7_clean 155 = .ok (.iload_n 2, 1) := by decide +kernel
theorem dX7_clean_156 : decode cX7_clean 156 = .ok (.ifCond .eq 12, 3) := by decide +kernel
theorem dX7_clean_159 : decode cX7_clean 159 = .ok (.aload_n 0, 1) := by decide +kernel
theorem dX7_clean_160 : decode cX7_clean 160 = .ok (.aload 7, 2) := by decide +kernel
theorem dX7_clean_162 : decode cX7_clean 162 = .ok (.iload 9, 2) := by decide +kernel
theorem dX7_clean_164 : decode cX7_clean 164 = .ok (.aaload, 1) := by decide +kernel
theorem dX7_clean_165 : decode cX7_clean 165 = .ok (.invokevirtual 153, 3) := by decide +kernel
theorem dX7_clean_168 : decode cX7_clean 168 = .ok (.iinc 9 1, 3) := by decide +kernel
theorem dX7_clean_171 : decode cX7_clean 171 = .ok (.goto (-128), 3) := by decide +kernel
theorem dX7_clean_174 : decode cX7_clean 174 = .ok (.iinc 6 1, 3) := by decide +kernel
theorem dX7_clean_177 : decode cX7_clean 177 = .ok (.goto (-159), 3) := by decide +kernel
theorem dX7_clean_180 : decode cX7_clean 180 = .ok (.iload_n 3, 1) := by decide +kernel
theorem dX7_clean_181 : decode cX7_clean 181 = .ok (.ireturn, 1) := by decide +kernel
theorem dX7_clean__0 : decode cX7_clean_ 0 = .ok (.aload_n 0, 1) := by decide +kernel
theorem dX7_clean__1 : decode cX7_clean_ 1 = .ok (.aload_n 0, 1) := by decide +kernel
theorem dX7_clean__2 : decode cX7_clean_ 2 = .ok (.getfield 25, 3) := by decide +kernel
theorem dX7_clean__5 : decode cX7_clean_ 5 = .ok (.arraylength, 1) := by decide +kernel
theorem dX7_clean__6 : decode cX7_clean_ 6 = .ok (.invokevirtual 94, 3) := by decide +kernel
theorem dX7_clean__9 : decode cX7_clean_ 9 = .ok (.istore_n 1, 1) := by decide +kernel
theorem dX7_clean__10 : decode cX7_clean_ 10 = .ok (.aload_n 0, 1) := by decide +kernel
theorem dX7_clean__11 : decode cX7_clean_ 11 = .ok (.getfield 29, 3) := by decide +kernel
theorem dX7_clean__14 : decode cX7_clean_ 14 = .ok (.iload_n 1, 1) := by decide +kernel
theorem dX7_clean__15 : decode cX7_clean_ 15 = .ok (.baload, 1) := by decide +kernel
theorem dX7_clean__16 : decode cX7_clean_ 16 = .ok (.ifCond .ne 26, 3) := by decide +kernel
theorem dX7_clean__19 : decode cX7_clean_ 19 = .ok (.aload_n 0, 1) := by decide +kernel
theorem dX7_clean__20 : decode cX7_clean_ 20 = .ok (.getfield 10, 3) := by decide +kernel
theorem dX7_clean__23 : decode cX7_clean_ 23 = .ok (.iload_n 1, 1) := by decide +kernel
theorem dX7_clean__24 : decode cX7_clean_ 24 = .ok (.invokevirtual 157, 3) := by decide +kernel
theorem dX7_clean__27 : decode cX7_clean_ 27 = .ok (.aload_n 0, 1) := by decide +kernel
theorem dX7_clean__28 : decode cX7_clean_ 28 = .ok (.iload_n 1, 1) := by decide +kernel
theorem dX7_clean__29 : decode cX7_clean_ 29 = .ok (.iconst 0, 1) := by decide +kernel
theorem dX7_clean__30 : decode cX7_clean_ 30 = .ok (.invokevirtual 160, 3) := by decide +kernel
theorem dX7_clean__33 : decode cX7_clean_ 33 = .ok (.if_icmp .ne 7, 3) := by decide +kernel
theorem dX7_clean__36 : decode cX7_clean_ 36 = .ok (.iconst 1, 1) := by decide +kernel
theorem dX7_clean__37 : decode cX7_clean_ 37 = .ok (.goto 4, 3) := by decide +kernel
theorem dX7_clean__40 : decode cX7_clean_ 40 = .ok (.iconst 0, 1) := by decide +kernel
theorem dX7_clean__41 : decode cX7_clean_ 41 = .ok (.ireturn, 1) := by decide +kernel
theorem dX7_clean__42 : decode cX7_clean_ 42 = .ok (.aload_n 0, 1) := by decide +kernel
theorem dX7_clean__43 : decode cX7_clean_ 43 = .ok (.iload_n 1, 1) := by decide +kernel
theorem dX7_clean__44 : decode cX7_clean_ 44 = .ok (.iconst 1, 1) := by decide +kernel
theorem dX7_clean__45 : decode cX7_clean_ 45 = .ok (.invokevirtual 160, 3) := by decide +kernel
theorem dX7_clean__48 : decode cX7_clean_ 48 = .ok (.istore_n 2, 1) := by decide +kernel
theorem dX7_clean__49 : decode cX7_clean_ 49 = .ok (.aload_n 0, 1) := by decide +kernel
theorem dX7_clean__50 : decode cX7_clean_ 50 = .ok (.invokevirtual 126, 3) := by decide +kernel
theorem dX7_clean__53 : decode cX7_clean_ 53 = .ok (.aload_n 0, 1) := by decide +kernel
theorem dX7_clean__54 : decode cX7_clean_ 54 = .ok (.getfield 10, 3) := by decide +kernel
theorem dX7_clean__57 : decode cX7_clean_ 57 = .ok (.iload_n 1, 1) := by decide +kernel
theorem dX7_clean__58 : decode cX7_clean_ 58 = .ok (.invokevirtual 163, 3) := by decide +kernel
theorem dX7_clean__61 : decode cX7_clean_ 61 = .ok (.iload_n 2, 1) := by decide +kernel
theorem dX7_clean__62 : decode cX7_clean_ 62 = .ok (.if_icmp .ne 7, 3) := by decide +kernel
theorem dX7_clean__65 : decode cX7_clean_ 65 = .ok (.iconst 1, 1) := by decide +kernel
theorem dX7_clean__66 : decode cX7_clean_ 66 = .ok (.goto 4, 3) := by decide +kernel
theorem dX7_clean__69 : decode cX7_clean_ 69 = .ok (.iconst 0, 1) := by decide +kernel
theorem dX7_clean__70 : decode cX7_clean_ 70 = .ok (.ireturn, 1) := by decide +kernel
theorem dX7_setKeep_0 : decode cX7_setKeep 0 = .ok (.aload_n 0, 1) := by decide +kernel
theorem dX7_setKeep_1 : decode cX7_setKeep 1 = .ok (.aload_n 0, 1) := by decide +kernel
theorem dX7_setKeep_2 : decode cX7_setKeep 2 = .ok (.getfield 25, 3) := by decide +kernel
theorem dX7_setKeep_5 : decode cX7_setKeep 5 = .ok (.arraylength, 1) := by decide +kernel
theorem dX7_setKeep_6 : decode cX7_setKeep 6 = .ok (.invokevirtual 94, 3) := by decide +kernel
theorem dX7_setKeep_9 : decode cX7_setKeep 9 = .ok (.istore_n 1, 1) := by decide +kernel
theorem dX7_setKeep_10 : decode cX7_setKeep 10 = .ok (.aload_n 0, 1) := by decide +kernel
theorem dX7_setKeep_11 : decode cX7_setKeep 11 = .ok (.getfield 33, 3) := by decide +kernel
theorem dX7_setKeep_14 : decode cX7_setKeep 14 = .ok (.iload_n 1, 1) := by decide +kernel
theorem dX7_setKeep_15 : decode cX7_setKeep 15 = .ok (.iaload, 1) := by decide +kernel
theorem dX7_setKeep_16 : decode cX7_setKeep 16 = .ok (.istore_n 2, 1) := by decide +kernel
theorem dX7_setKeep_17 : decode cX7_setKeep 17 = .ok (.aload_n 0, 1) := by decide +kernel
theorem dX7_setKeep_18 : decode cX7_setKeep 18 = .ok (.getfield 33, 3) := by decide +kernel
theorem dX7_setKeep_21 : decode cX7_setKeep 21 = .ok (.iload_n 1, 1) := by decide +kernel
theorem dX7_setKeep_22 : decode cX7_setKeep 22 = .ok (.aload_n 0, 1) := by decide +kernel
theorem dX7_setKeep_23 : decode cX7_setKeep 23 = .ok (.iconst 2, 1) := by decide +kernel
theorem dX7_setKeep_24 : decode cX7_setKeep 24 = .ok (.invokevirtual 94, 3) := by decide +kernel
theorem dX7_setKeep_27 : decode cX7_setKeep 27 = .ok (.ifCond .ne 7, 3) := by decide +kernel
theorem dX7_setKeep_30 : decode cX7_setKeep 30 = .ok (.iconst 0, 1) := by decide +kernel
theorem dX7_setKeep_31 : decode cX7_setKeep 31 = .ok (.goto 11, 3) := by decide +kernel
theorem dX7_setKeep_34 : decode cX7_setKeep 34 = .ok (.iconst 1, 1) := by decide +kernel
theorem dX7_setKeep_35 : decode cX7_setKeep 35 = .ok (.aload_n 0, 1) := by decide +kernel
theorem dX7_setKeep_36 : decode cX7_setKeep 36 = .ok (.bipush 30, 2) := by decide +kernel
theorem dX7_setKeep_38 : decode cX7_setKeep 38 = .ok (.invokevirtual 94, 3) := by decide +kernel
theorem dX7_setKeep_41 : decode cX7_setKeep 41 = .ok (.iadd, 1) := by decide +kernel
theorem dX7_setKeep_42 : decode cX7_setKeep 42 = .ok (.iastore, 1) := by decide +kernel
theorem dX7_setKeep_43 : decode cX7_setKeep 43 = .ok (.aload_n 0, 1) := by decide +kernel
theorem dX7_setKeep_44 : decode cX7_setKeep 44 = .ok (.getfield 10, 3) := by decide +kernel
theorem dX7_setKeep_47 : decode cX7_setKeep 47 = .ok (.iload_n 1, 1) := by decide +kernel
theorem dX7_setKeep_48 : decode cX7_setKeep 48 = .ok (.aload_n 0, 1) := by decide +kernel
theorem dX7_setKeep_49 : decode cX7_setKeep 49 = .ok (.getfield 33, 3) := by decide +kernel
theorem dX7_setKeep_52 : decode cX7_setKeep 52 = .ok (.iload_n 1, 1) := by decide +kernel
theorem dX7_setKeep_53 : decode cX7_setKeep 53 = .ok (.iaload, 1) := by decide +kernel
theorem dX7_setKeep_54 : decode cX7_setKeep 54 = .ok (.invokevirtual 165, 3) := by decide +kernel
theorem dX7_setKeep_57 : decode cX7_setKeep 57 = .ok (.iload_n 2, 1) := by decide +kernel
theorem dX7_setKeep_58 : decode cX7_setKeep 58 = .ok (.if_icmp .ne 7, 3) := by decide +kernel
theorem dX7_setKeep_61 : decode cX7_setKeep 61 = .ok (.iconst 1, 1) := by decide +kernel
theorem dX7_setKeep_62 : decode cX7_setKeep 62 = .ok (.goto 4, 3) := by decide +kernel
theorem dX7_setKeep_65 : decode cX7_setKeep 65 = .ok (.iconst 0, 1) := by decide +kernel
theorem dX7_setKeep_66 : decode cX7_setKeep 66 = .ok (.ireturn, 1) := by decide +kernel
theorem dX7_write_0 : decode cX7_write 0 = .ok (.iconst 5, 1) := by decide +kernel
theorem dX7_write_1 : decode cX7_write 1 = .ok (.newarray .int, 2) := by decide +kernel
theorem dX7_write_3 : decode cX7_write 3 = .ok (.dup, 1) := by decide +kernel
theorem dX7_write_4 : decode cX7_write 4 = .ok (.iconst 0, 1) := by decide +kernel
theorem dX7_write_5 : decode cX7_write 5 = .ok (.iload_n 1, 1) := by decide +kernel
theorem dX7_write_6 : decode cX7_write 6 = .ok (.iastore, 1) := by decide +kernel
theorem dX7_write_7 : decode cX7_write 7 = .ok (.dup, 1) := by decide +kernel
theorem dX7_write_8 : decode cX7_write 8 = .ok (.iconst 1, 1) := by decide +kernel
theorem dX7_write_9 : decode cX7_write 9 = .ok (.iload_n 2, 1) := by decide +kernel
theorem dX7_write_10 : decode cX7_write 10 = .ok (.iastore, 1) := by decide +kernel
theorem dX7_write_11 : decode cX7_write 11 = .ok (.dup, 1) := by decide +kernel
theorem dX7_write_12 : decode cX7_write 12 = .ok (.iconst 2, 1) := by decide +kernel
theorem dX7_write_13 : decode cX7_write 13 = .ok (.iload_n 3, 1) := by decide +kernel
theorem dX7_write_14 : decode cX7_write 14 = .ok (.iastore, 1) := by decide +kernel
theorem dX7_write_15 : decode cX7_write 15 = .ok (.dup, 1) := by decide +kernel
theorem dX7_write_16 : decode cX7_write 16 = .ok (.iconst 3, 1) := by decide +kernel
theorem dX7_write_17 : decode cX7_write 17 = .ok (.iload 4, 2) := by decide +kernel
theorem dX7_write_19 : decode cX7_write 19 = .ok (.iastore, 1) := by decide +kernel
theorem dX7_write_20 : decode cX7_write 20 = .ok (.dup, 1) := by decide +kernel
theorem dX7_write_21 : decode cX7_write 21 = .ok (.iconst 4, 1) := by decide +kernel
theorem dX7_write_22 : decode cX7_write 22 = .ok (.aload_n 0, 1) := by decide +kernel
theorem dX7_write_23 : decode cX7_write 23 = .ok (.getfield 119, 3) := by decide +kernel
theorem dX7_write_26 : decode cX7_write 26 = .ok (.iastore, 1) := by decide +kernel
theorem dX7_write_27 : decode cX7_write 27 = .ok (.astore 5, 2) := by decide +kernel
theorem dX7_write_29 : decode cX7_write 29 = .ok (.aload_n 0, 1) := by decide +kernel
theorem dX7_write_30 : decode cX7_write 30 = .ok (.getfield 69, 3) := by decide +kernel
theorem dX7_write_33 : decode cX7_write 33 = .ok (.arraylength, 1) := by decide +kernel
theorem dX7_write_34 : decode cX7_write 34 = .ok (.sipush 200, 3) := by decide +kernel
theorem dX7_write_37 : decode cX7_write 37 = .ok (.if_icmp .ge 16, 3) := by decide +kernel
theorem dX7_write_40 : decode cX7_write 40 = .ok (.aload_n 0, 1) := by decide +kernel
theorem dX7_write_41 : decode cX7_write 41 = .ok (.aload_n 0, 1) := by decide +kernel
theorem dX7_write_42 : decode cX7_write 42 = .ok (.getfield 69, 3) := by decide +kernel
theorem dX7_write_45 : decode cX7_write 45 = .ok (.aload 5, 2) := by decide +kernel
theorem dX7_write_47 : decode cX7_write 47 = .ok (.invokestatic 122, 3) := by decide +kernel
theorem dX7_write_50 : decode cX7_write 50 = .ok (.putfield 69, 3) := by decide +kernel
theorem dX7_write_53 : decode cX7_write 53 = .ok (.return_, 1) := by decide +kernel
theorem dX7_nack_0 : decode cX7_nack 0 = .ok (.aload_n 0, 1) := by decide +kernel
theorem dX7_nack_1 : decode cX7_nack 1 = .ok (.getfield 25, 3) := by decide +kernel
theorem dX7_nack_4 : decode cX7_nack 4 = .ok (.aload_n 0, 1) := by decide +kernel
theorem dX7_nack_5 : decode cX7_nack 5 = .ok (.getfield 51, 3) := by decide +kernel
theorem dX7_nack_8 : decode cX7_nack 8 = .ok (.iload_n 1, 1) := by decide +kernel
theorem dX7_nack_9 : decode cX7_nack 9 = .ok (.iaload, 1) := by decide +kernel
theorem dX7_nack_10 : decode cX7_nack 10 = .ok (.aaload, 1) := by decide +kernel
theorem dX7_nack_11 : decode cX7_nack 11 = .ok (.iload_n 2, 1) := by decide +kernel
theorem dX7_nack_12 : decode cX7_nack 12 = .ok (.aaload, 1) := by decide +kernel
theorem dX7_nack_13 : decode cX7_nack 13 = .ok (.iload_n 3, 1) := by decide +kernel
theorem dX7_nack_14 : decode cX7_nack 14 = .ok (.aaload, 1) := by decide +kernel
theorem dX7_nack_15 : decode cX7_nack 15 = .ok (.astore 4, 2) := by decide +kernel
theorem dX7_nack_17 : decode cX7_nack 17 = .ok (.aload_n 0, 1) := by decide +kernel
theorem dX7_nack_18 : decode cX7_nack 18 = .ok (.iconst 2, 1) := by decide +kernel
theorem dX7_nack_19 : decode cX7_nack 19 = .ok (.iload_n 1, 1) := by decide +kernel
theorem dX7_nack_20 : decode cX7_nack 20 = .ok (.iload_n 2, 1) := by decide +kernel
theorem dX7_nack_21 : decode cX7_nack 21 = .ok (.iload_n 3, 1) := by decide +kernel
theorem dX7_nack_22 : decode cX7_nack 22 = .ok (.invokevirtual 168, 3) := by decide +kernel
theorem dX7_nack_25 : decode cX7_nack 25 = .ok (.aload 4, 2) := by decide +kernel
theorem dX7_nack_27 : decode cX7_nack 27 = .ok (.bipush 6, 2) := by decide +kernel
theorem dX7_nack_29 : decode cX7_nack 29 = .ok (.iconst 3, 1) := by decide +kernel
theorem dX7_nack_30 : decode cX7_nack 30 = .ok (.iload_n 1, 1) := by decide +kernel
theorem dX7_nack_31 : decode cX7_nack 31 = .ok (.imul, 1) := by decide +kernel
theorem dX7_nack_32 : decode cX7_nack 32 = .ok (.iadd, 1) := by decide +kernel
theorem dX7_nack_33 : decode cX7_nack 33 = .ok (.iaload, 1) := by decide +kernel
theorem dX7_nack_34 : decode cX7_nack 34 = .ok (.iconst 2, 1) := by decide +kernel
theorem dX7_nack_35 : decode cX7_nack 35 = .ok (.if_icmp .le 22, 3) := by decide +kernel
theorem dX7_nack_38 : decode cX7_nack 38 = .ok (.aload 4, 2) := by decide +kernel
theorem dX7_nack_40 : decode cX7_nack 40 = .ok (.iconst 5, 1) := by decide +kernel
theorem dX7_nack_41 : decode cX7_nack 41 = .ok (.iconst 3, 1) := by decide +kernel
theorem dX7_nack_42 : decode cX7_nack 42 = .ok (.iload_n 1, 1) := by decide +kernel
theorem dX7_nack_43 : decode cX7_nack 43 = .ok (.imul, 1) := by decide +kernel
theorem dX7_nack_44 : decode cX7_nack 44 = .ok (.iadd, 1) := by decide +kernel
theorem dX7_nack_45 : decode cX7_nack 45 = .ok (.iconst 4, 1) := by decide +kernel
theorem dX7_nack_46 : decode cX7_nack 46 = .ok (.iastore, 1) := by decide +kernel
theorem dX7_nack_47 : decode cX7_nack 47 = .ok (.aload_n 0, 1) := by decide +kernel
theorem dX7_nack_48 : decode cX7_nack 48 = .ok (.iconst 3, 1) := by decide +kernel
theorem dX7_nack_49 : decode cX7_nack 49 = .ok (.iload_n 1, 1) := by decide +kernel
theorem dX7_nack_50 : decode cX7_nack 50 = .ok (.iload_n 2, 1) := by decide +kernel
theorem dX7_nack_51 : decode cX7_nack 51 = .ok (.iload_n 3, 1) := by decide +kernel
theorem dX7_nack_52 : decode cX7_nack 52 = .ok (.invokevirtual 168, 3) := by decide +kernel
theorem dX7_nack_55 : decode cX7_nack 55 = .ok (.iconst (-1), 1) := by decide +kernel
theorem dX7_nack_56 : decode cX7_nack 56 = .ok (.ireturn, 1) := by decide +kernel
theorem dX7_nack_57 : decode cX7_nack 57 = .ok (.aload 4, 2) := by decide +kernel
theorem dX7_nack_59 : decode cX7_nack 59 = .ok (.iconst 5, 1) := by decide +kernel
theorem dX7_nack_60 : decode cX7_nack 60 = .ok (.iconst 3, 1) := by decide +kernel
theorem dX7_nack_61 : decode cX7_nack 61 = .ok (.iload_n 1, 1) := by decide +kernel
theorem dX7_nack_62 : decode cX7_nack 62 = .ok (.imul, 1) := by decide +kernel
theorem dX7_nack_63 : decode cX7_nack 63 = .ok (.iadd, 1) := by decide +kernel
theorem dX7_nack_64 : decode cX7_nack 64 = .ok (.iconst 2, 1) := by decide +kernel
theorem dX7_nack_65 : decode cX7_nack 65 = .ok (.iastore, 1) := by decide +kernel
theorem dX7_nack_66 : decode cX7_nack 66 = .ok (.aload 4, 2) := by decide +kernel
theorem dX7_nack_68 : decode cX7_nack 68 = .ok (.bipush 7, 2) := by decide +kernel
theorem dX7_nack_70 : decode cX7_nack 70 = .ok (.iconst 3, 1) := by decide +kernel
theorem dX7_nack_71 : decode cX7_nack 71 = .ok (.iload_n 1, 1) := by decide +kernel
theorem dX7_nack_72 : decode cX7_nack 72 = .ok (.imul, 1) := by decide +kernel
theorem dX7_nack_73 : decode cX7_nack 73 = .ok (.iadd, 1) := by decide +kernel
theorem dX7_nack_74 : decode cX7_nack 74 = .ok (.aload_n 0, 1) := by decide +kernel
theorem dX7_nack_75 : decode cX7_nack 75 = .ok (.getfield 119, 3) := by decide +kernel
theorem dX7_nack_78 : decode cX7_nack 78 = .ok (.aload 4, 2) := by decide +kernel
theorem dX7_nack_80 : decode cX7_nack 80 = .ok (.bipush 6, 2) := by decide +kernel
theorem dX7_nack_82 : decode cX7_nack 82 = .ok (.iconst 3, 1) := by decide +kernel
theorem dX7_nack_83 : decode cX7_nack 83 = .ok (.iload_n 1, 1) := by decide +kernel
theorem dX7_nack_84 : decode cX7_nack 84 = .ok (.imul, 1) := by decide +kernel
theorem dX7_nack_85 : decode cX7_nack 85 = .ok (.iadd, 1) := by decide +kernel
theorem dX7_nack_86 : decode cX7_nack 86 = .ok (.iaload, 1) := by decide +kernel
theorem dX7_nack_87 : decode cX7_nack 87 = .ok (.iconst 1, 1) := by decide +kernel
theorem dX7_nack_88 : decode cX7_nack 88 = .ok (.if_icmp .ne 10, 3) := by decide +kernel
theorem dX7_nack_91 : decode cX7_nack 91 = .ok (.aload_n 0, 1) := by decide +kernel
theorem dX7_nack_92 : decode cX7_nack 92 = .ok (.getfield 16, 3) := by decide +kernel
theorem dX7_nack_95 : decode cX7_nack 95 = .ok (.goto 9, 3) := by decide +kernel
theorem dX7_nack_98 : decode cX7_nack 98 = .ok (.iconst 2, 1) := by decide +kernel
theorem dX7_nack_99 : decode cX7_nack 99 = .ok (.aload_n 0, 1) := by decide +kernel
theorem dX7_nack_100 : decode cX7_nack 100 = .ok (.getfield 16, 3) := by decide +kernel
theorem dX7_nack_103 : decode cX7_nack 103 = .ok (.imul, 1) := by decide +kernel
theorem dX7_nack_104 : decode cX7_nack 104 = .ok (.iadd, 1) := by decide +kernel
theorem dX7_nack_105 : decode cX7_nack 105 = .ok (.iastore, 1) := by decide +kernel
theorem dX7_nack_106 : decode cX7_nack 106 = .ok (.aload 4, 2) := by decide +kernel
theorem dX7_nack_108 : decode cX7_nack 108 = .ok (.bipush 7, 2) := by decide +kernel
theorem dX7_nack_110 : decode cX7_nack 110 = .ok (.iconst 3, 1) := by decide +kernel
theorem dX7_nack_111 : decode cX7_nack 111 = .ok (.iload_n 1, 1) := by decide +kernel
theorem dX7_nack_112 : decode cX7_nack 112 = .ok (.imul, 1) := by decide +kernel
theorem dX7_nack_113 : decode cX7_nack 113 = .ok (.iadd, 1) := by decide +kernel
theorem dX7_nack_114 : decode cX7_nack 114 = .ok (.iaload, 1) := by decide +kernel
theorem dX7_nack_115 : decode cX7_nack 115 = .ok (.ireturn, 1) := by decide +kernel
theorem dX7_setClock_0 : decode cX7_setClock 0 = .ok (.aload_n 0, 1) := by decide +kernel
theorem dX7_setClock_1 : decode cX7_setClock 1 = .ok (.dup, 1) := by decide +kernel
theorem dX7_setClock_2 : decode cX7_setClock 2 = .ok (.getfield 119, 3) := by decide +kernel
theorem dX7_setClock_5 : decode cX7_setClock 5 = .ok (.iconst 1, 1) := by decide +kernel
theorem dX7_setClock_6 : decode cX7_setClock 6 = .ok (.aload_n 0, 1) := by decide +kernel
theorem dX7_setClock_7 : decode cX7_setClock 7 = .ok (.aload_n 0, 1) := by decide +kernel
theorem dX7_setClock_8 : decode cX7_setClock 8 = .ok (.iconst 3, 1) := by decide +kernel
theorem dX7_setClock_9 : decode cX7_setClock 9 = .ok (.invokevirtual 94, 3) := by decide +kernel
theorem dX7_setClock_12 : decode cX7_setClock 12 = .ok (.ifCond .ne 8, 3) := by decide +kernel
theorem dX7_setClock_15 : decode cX7_setClock 15 = .ok (.bipush 14, 2) := by decide +kernel
theorem dX7_setClock_17 : decode cX7_setClock 17 = .ok (.goto 4, 3) := by decide +kernel
theorem dX7_setClock_20 : decode cX7_setClock 20 = .ok (.iconst 4, 1) := by decide +kernel
theorem dX7_setClock_21 : decode cX7_setClock 21 = .ok (.invokevirtual 94, 3) := by decide +kernel
theorem dX7_setClock_24 : decode cX7_setClock 24 = .ok (.iadd, 1) := by decide +kernel
theorem dX7_setClock_25 : decode cX7_setClock 25 = .ok (.iadd, 1) := by decide +kernel
theorem dX7_setClock_26 : decode cX7_setClock 26 = .ok (.putfield 119, 3) := by decide +kernel
theorem dX7_setClock_29 : decode cX7_setClock 29 = .ok (.iconst 0, 1) := by decide +kernel
theorem dX7_setClock_30 : decode cX7_setClock 30 = .ok (.istore_n 1, 1) := by decide +kernel
theorem dX7_setClock_31 : decode cX7_setClock 31 = .ok (.iconst 0, 1) := by decide +kernel
theorem dX7_setClock_32 : decode cX7_setClock 32 = .ok (.istore_n 2, 1) := by decide +kernel
theorem dX7_setClock_33 : decode cX7_setClock 33 = .ok (.iload_n 2, 1) := by decide +kernel
theorem dX7_setClock_34 : decode cX7_setClock 34 = .ok (.aload_n 0, 1) := by decide +kernel
theorem dX7_setClock_35 : decode cX7_setClock 35 = .ok (.getfield 105, 3) := by decide +kernel
theorem dX7_setClock_38 : decode cX7_setClock 38 = .ok (.if_icmp .ge 127, 3) := by decide +kernel
theorem dX7_setClock_41 : decode cX7_setClock 41 = .ok (.iconst 0, 1) := by decide +kernel
theorem dX7_setClock_42 : decode cX7_setClock 42 = .ok (.istore_n 3, 1) := by decide +kernel
theorem dX7_setClock_43 : decode cX7_setClock 43 = .ok (.iload_n 3, 1) := by decide +kernel
theorem dX7_setClock_44 : decode cX7_setClock 44 = .ok (.aload_n 0, 1) := by decide +kernel
theorem dX7_setClock_45 : decode cX7_setClock 45 = .ok (.getfield 25, 3) := by decide +kernel
theorem dX7_setClock_48 : decode cX7_setClock 48 = .ok (.aload_n 0, 1) := by decide +kernel
theorem dX7_setClock_49 : decode cX7_setClock 49 = .ok (.getfield 51, 3) := by decide +kernel
theorem dX7_setClock_52 : decode cX7_setClock 52 = .ok (.iload_n 2, 1) := by decide +kernel
theorem dX7_setClock_53 : decode cX7_setClock 53 = .ok (.iaload, 1) := by decide +kernel
theorem dX7_setClock_54 : decode cX7_setClock 54 = .ok (.aaload, 1) := by decide +kernel
theorem dX7_setClock_55 : decode cX7_setClock 55 = .ok (.arraylength, 1) := by decide +kernel
theorem dX7_setClock_56 : decode cX7_setClock 56 = .ok (.if_icmp .ge 103, 3) := by decide +kernel
theorem dX7_setClock_59 : decode cX7_setClock 59 = .ok (.iconst 0, 1) := by decide +kernel
theorem dX7_setClock_60 : decode cX7_setClock 60 = .ok (.istore 4, 2) := by decide +kernel
theorem dX7_setClock_62 : decode cX7_setClock 62 = .ok (.iload 4, 2) := by decide +kernel
theorem dX7_setClock_64 : decode cX7_setClock 64 = .ok (.aload_n 0, 1) := by decide +kernel
theorem dX7_setClock_65 : decode cX7_setClock 65 = .ok (.getfield 25, 3) := by decide +kernel
theorem dX7_setClock_68 : decode cX7_setClock 68 = .ok (.aload_n 0, 1) := by decide +kernel
theorem dX7_setClock_69 : decode cX7_setClock 69 = .ok (.getfield 51, 3) := by decide +kernel
theorem dX7_setClock_72 : decode cX7_setClock 72 = .ok (.iload_n 2, 1) := by decide +kernel
theorem dX7_setClock_73 : decode cX7_setClock 73 = .ok (.iaload, 1) := by decide +kernel
theorem dX7_setClock_74 : decode cX7_setClock 74 = .ok (.aaload, 1) := by decide +kernel
theorem dX7_setClock_75 : decode cX7_setClock 75 = .ok (.iload_n 3, 1) := by decide +kernel
theorem dX7_setClock_76 : decode cX7_setClock 76 = .ok (.aaload, 1) := by decide +kernel
theorem dX7_setClock_77 : decode cX7_setClock 77 = .ok (.arraylength, 1) := by decide +kernel
theorem dX7_setClock_78 : decode cX7_setClock 78 = .ok (.if_icmp .ge 75, 3) := by decide +kernel
theorem dX7_setClock_81 : decode cX7_setClock 81 = .ok (.aload_n 0, 1) := by decide +kernel
theorem dX7_setClock_82 : decode cX7_setClock 82 = .ok (.getfield 25, 3) := by decide +kernel
theorem dX7_setClock_85 : decode cX7_setClock 85 = .ok (.aload_n 0, 1) := by decide +kernel
theorem dX7_setClock_86 : decode cX7_setClock 86 = .ok (.getfield 51, 3) := by decide +kernel
theorem dX7_setClock_89 : decode cX7_setClock 89 = .ok (.iload_n 2, 1) := by decide +kernel
theorem dX7_setClock_90 : decode cX7_setClock 90 = .ok (.iaload, 1) := by decide +kernel
theorem dX7_setClock_91 : decode cX7_setClock 91 = .ok (.aaload, 1) := by decide +kernel
theorem dX7_setClock_92 : decode cX7_setClock 92 = .ok (.iload_n 3, 1) := by decide +kernel
theorem dX7_setClock_93 : decode cX7_setClock 93 = .ok (.aaload, 1) := by decide +kernel
theorem dX7_setClock_94 : decode cX7_setClock 94 = .ok (.iload 4, 2) := by decide +kernel
theorem dX7_setClock_96 : decode cX7_setClock 96 = .ok (.aaload, 1) := by decide +kernel
theorem dX7_setClock_97 : decode cX7_setClock 97 = .ok (.astore 5, 2) := by decide +kernel
theorem dX7_setClock_99 : decode cX7_setClock 99 = .ok (.aload 5, 2) := by decide +kernel
theorem dX7_setClock_101 : decode cX7_setClock 101 = .ok (.iconst 5, 1) := by decide +kernel
theorem dX7_setClock_102 : decode cX7_setClock 102 = .ok (.iconst 3, 1) := by decide +kernel
theorem dX7_setClock_103 : decode cX7_setClock 103 = .ok (.iload_n 2, 1) := by decide +kernel
theorem dX7_setClock_104 : decode cX7_setClock 104 = .ok (.imul, 1) := by decide +kernel
theorem dX7_setClock_105 : decode cX7_setClock 105 = .ok (.iadd, 1) := by decide +kernel
theorem dX7_setClock_106 : decode cX7_setClock 106 = .ok (.iaload, 1) := by decide +kernel
theorem dX7_setClock_107 : decode cX7_setClock 107 = .ok (.iconst 1, 1) := by decide +kernel
theorem dX7_setClock_108 : decode cX7_setClock 108 = .ok (.if_icmp .ne 39, 3) := by decide +kernel
theorem dX7_setClock_111 : decode cX7_setClock 111 = .ok (.aload_n 0, 1) := by decide +kernel
theorem dX7_setClock_112 : decode cX7_setClock 112 = .ok (.getfield 119, 3) := by decide +kernel
theorem dX7_setClock_115 : decode cX7_setClock 115 = .ok (.aload 5, 2) := by decide +kernel
theorem dX7_setClock_117 : decode cX7_setClock 117 = .ok (.bipush 7, 2) := by decide +kernel
theorem dX7_setClock_119 : decode cX7_setClock 119 = .ok (.iconst 3, 1) := by decide +kernel
theorem dX7_setClock_120 : decode cX7_setClock 120 = .ok (.iload_n 2, 1) := by decide +kernel
theorem dX7_setClock_121 : decode cX7_setClock 121 = .ok (.imul, 1) := by decide +kernel
theorem dX7_setClock_122 : decode cX7_setClock 122 = .ok (.iadd, 1) := by decide +kernel
theorem dX7_setClock_123 : decode cX7_setClock 123 = .ok (.iaload, 1) := by decide +kernel
theorem dX7_setClock_124 : decode cX7_setClock 124 = .ok (.isub, 1) := by decide +kernel
theorem dX7_setClock_125 : decode cX7_setClock 125 = .ok (.aload_n 0, 1) := by decide +kernel
theorem dX7_setClock_126 : decode cX7_setClock 126 = .ok (.getfield 20, 3) := by decide +kernel
theorem dX7_setClock_129 : decode cX7_setClock 129 = .ok (.if_icmp .ge 6, 3) := by decide +kernel
theorem dX7_setClock_132 : decode cX7_setClock 132 = .ok (.goto 15, 3) := by decide +kernel
theorem dX7_setClock_135 : decode cX7_setClock 135 = .ok (.aload_n 0, 1) := by decide +kernel
theorem dX7_setClock_136 : decode cX7_setClock 136 = .ok (.iload_n 2, 1) := by decide +kernel
theorem dX7_setClock_137 : decode cX7_setClock 137 = .ok (.iload_n 3, 1) := by decide +kernel
theorem dX7_setClock_138 : decode cX7_setClock 138 = .ok (.iload 4, 2) := by decide +kernel
theorem dX7_setClock_140 : decode cX7_setClock 140 = .ok (.invokevirtual 172, 3) := by decide +kernel
theorem dX7_setClock_143 : decode cX7_setClock 143 = .ok (.pop, 1) := by decide +kernel
theorem dX7_setClock_144 : decode cX7_setClock 144 = .ok (.iinc 1 1, 3) := by decide +kernel
theorem dX7_setClock_147 : decode cX7_setClock 147 = .ok (.iinc 4 1, 3) := by decide +kernel
theorem dX7_setClock_150 : decode cX7_setClock 150 = .ok (.goto (-88), 3) := by decide +kernel
theorem dX7_setClock_153 : decode cX7_setClock 153 = .ok (.iinc 3 1, 3) := by decide +kernel
theorem dX7_setClock_156 : decode cX7_setClock 156 = .ok (.goto (-113), 3) := by decide +kernel
theorem dX7_setClock_159 : decode cX7_setClock 159 = .ok (.iinc 2 1, 3) := by decide +kernel
theorem dX7_setClock_162 : decode cX7_setClock 162 = .ok (.goto (-129), 3) := by decide +kernel
theorem dX7_setClock_165 : decode cX7_setClock 165 = .ok (.iconst 0, 1) := by decide +kernel
theorem dX7_setClock_166 : decode cX7_setClock 166 = .ok (.istore_n 2, 1) := by decide +kernel
theorem dX7_setClock_167 : decode cX7_setClock 167 = .ok (.iload_n 2, 1) := by decide +kernel
theorem dX7_setClock_168 : decode cX7_setClock 168 = .ok (.aload_n 0, 1) := by decide +kernel
theorem dX7_setClock_169 : decode cX7_setClock 169 = .ok (.getfield 25, 3) := by decide +kernel
theorem dX7_setClock_172 : decode cX7_setClock 172 = .ok (.arraylength, 1) := by decide +kernel
theorem dX7_setClock_173 : decode cX7_setClock 173 = .ok (.if_icmp .ge 130, 3) := by decide +kernel
theorem dX7_setClock_176 : decode cX7_setClock 176 = .ok (.iconst 0, 1) := by decide +kernel
theorem dX7_setClock_177 : decode cX7_setClock 177 = .ok (.istore_n 3, 1) := by decide +kernel
theorem dX7_setClock_178 : decode cX7_setClock 178 = .ok (.iload_n 3, 1) := by decide +kernel
theorem dX7_setClock_179 : decode cX7_setClock 179 = .ok (.aload_n 0, 1) := by decide +kernel
theorem dX7_setClock_180 : decode cX7_setClock 180 = .ok (.getfield 25, 3) := by decide +kernel
theorem dX7_setClock_183 : decode cX7_setClock 183 = .ok (.iload_n 2, 1) := by decide +kernel
theorem dX7_setClock_184 : decode cX7_setClock 184 = .ok (.aaload, 1) := by decide +kernel
theorem dX7_setClock_185 : decode cX7_setClock 185 = .ok (.arraylength, 1) := by decide +kernel
theorem dX7_setClock_186 : decode cX7_setClock 186 = .ok (.if_icmp .ge 111, 3) := by decide +kernel
theorem dX7_setClock_189 : decode cX7_setClock 189 = .ok (.aload_n 0, 1) := by decide +kernel
theorem dX7_setClock_190 : decode cX7_setClock 190 = .ok (.getfield 25, 3) := by decide +kernel
theorem dX7_setClock_193 : decode cX7_setClock 193 = .ok (.iload_n 2, 1) := by decide +kernel
theorem dX7_setClock_194 : decode cX7_setClock 194 = .ok (.aaload, 1) := by decide +kernel
theorem dX7_setClock_195 : decode cX7_setClock 195 = .ok (.iload_n 3, 1) := by decide +kernel
theorem dX7_setClock_196 : decode cX7_setClock 196 = .ok (.aaload, 1) := by decide +kernel
theorem dX7_setClock_197 : decode cX7_setClock 197 = .ok (.astore 4, 2) := by decide +kernel
theorem dX7_setClock_199 : decode cX7_setClock 199 = .ok (.aload_n 0, 1) := by decide +kernel
theorem dX7_setClock_200 : decode cX7_setClock 200 = .ok (.getfield 33, 3) := by decide +kernel
theorem dX7_setClock_203 : decode cX7_setClock 203 = .ok (.iload_n 2, 1) := by decide +kernel
theorem dX7_setClock_204 : decode cX7_setClock 204 = .ok (.iaload, 1) := by decide +kernel
theorem dX7_setClock_205 : decode cX7_setClock 205 = .ok (.ifCond .le 86, 3) := by decide +kernel
theorem dX7_setClock_208 : decode cX7_setClock 208 = .ok (.aload_n 0, 1) := by decide +kernel
theorem dX7_setClock_209 : decode cX7_setClock 209 = .ok (.getfield 39, 3) := by decide +kernel
theorem dX7_setClock_212 : decode cX7_setClock 212 = .ok (.iload_n 2, 1) := by decide +kernel
theorem dX7_setClock_213 : decode cX7_setClock 213 = .ok (.aaload, 1) := by decide +kernel
theorem dX7_setClock_214 : decode cX7_setClock 214 = .ok (.iload_n 3, 1) := by decide +kernel
theorem dX7_setClock_215 : decode cX7_setClock 215 = .ok (.iaload, 1) := by decide +kernel
theorem dX7_setClock_216 : decode cX7_setClock 216 = .ok (.aload 4, 2) := by decide +kernel
theorem dX7_setClock_218 : decode cX7_setClock 218 = .ok (.arraylength, 1) := by decide +kernel
theorem dX7_setClock_219 : decode cX7_setClock 219 = .ok (.if_icmp .ge 72, 3) := by decide +kernel
theorem dX7_setClock_222 : decode cX7_setClock 222 = .ok (.aload_n 0, 1) := by decide +kernel
theorem dX7_setClock_223 : decode cX7_setClock 223 = .ok (.getfield 119, 3) := by decide +kernel
theorem dX7_setClock_226 : decode cX7_setClock 226 = .ok (.aload 4, 2) := by decide +kernel
theorem dX7_setClock_228 : decode cX7_setClock 228 = .ok (.aload_n 0, 1) := by decide +kernel
theorem dX7_setClock_229 : decode cX7_setClock 229 = .ok (.getfield 39, 3) := by decide +kernel
theorem dX7_setClock_232 : decode cX7_setClock 232 = .ok (.iload_n 2, 1) := by decide +kernel
theorem dX7_setClock_233 : decode cX7_setClock 233 = .ok (.aaload, 1) := by decide +kernel
theorem dX7_setClock_234 : decode cX7_setClock 234 = .ok (.iload_n 3, 1) := by decide +kernel
theorem dX7_setClock_235 : decode cX7_setClock 235 = .ok (.iaload, 1) := by decide +kernel
theorem dX7_setClock_236 : decode cX7_setClock 236 = .ok (.aaload, 1) := by decide +kernel
theorem dX7_setClock_237 : decode cX7_setClock 237 = .ok (.iconst 2, 1) := by decide +kernel
theorem dX7_setClock_238 : decode cX7_setClock 238 = .ok (.iaload, 1) := by decide +kernel
theorem dX7_setClock_239 : decode cX7_setClock 239 = .ok (.isub, 1) := by decide +kernel
theorem dX7_setClock_240 : decode cX7_setClock 240 = .ok (.aload_n 0, 1) := by decide +kernel
theorem dX7_setClock_241 : decode cX7_setClock 241 = .ok (.getfield 33, 3) := by decide +kernel
theorem dX7_setClock_244 : decode cX7_setClock 244 = .ok (.iload_n 2, 1) := by decide +kernel
theorem dX7_setClock_245 : decode cX7_setClock 245 = .ok (.iaload, 1) := by decide +kernel
theorem dX7_setClock_246 : decode cX7_setClock 246 = .ok (.if_icmp .lt 45, 3) := by decide +kernel
theorem dX7_setClock_249 : decode cX7_setClock 249 = .ok (.aload_n 0, 1) := by decide +kernel
theorem dX7_setClock_250 : decode cX7_setClock 250 = .ok (.aload 4, 2) := by decide +kernel
theorem dX7_setClock_252 : decode cX7_setClock 252 = .ok (.aload_n 0, 1) := by decide +kernel
theorem dX7_setClock_253 : decode cX7_setClock 253 = .ok (.getfield 39, 3) := by decide +kernel
theorem dX7_setClock_256 : decode cX7_setClock 256 = .ok (.iload_n 2, 1) := by decide +kernel
theorem dX7_setClock_257 : decode cX7_setClock 257 = .ok (.aaload, 1) := by decide +kernel
theorem dX7_setClock_258 : decode cX7_setClock 258 = .ok (.iload_n 3, 1) := by decide +kernel
theorem dX7_setClock_259 : decode cX7_setClock 259 = .ok (.iaload, 1) := by decide +kernel
theorem dX7_setClock_260 : decode cX7_setClock 260 = .ok (.aaload, 1) := by decide +kernel
theorem dX7_setClock_261 : decode cX7_setClock 261 = .ok (.invokevirtual 101, 3) := by decide +kernel
theorem dX7_setClock_264 : decode cX7_setClock 264 = .ok (.iconst 2, 1) := by decide +kernel
theorem dX7_setClock_265 : decode cX7_setClock 265 = .ok (.if_icmp .eq 26, 3) := by decide +kernel
theorem dX7_setClock_268 : decode cX7_setClock 268 = .ok (.aload_n 0, 1) := by decide +kernel
theorem dX7_setClock_269 : decode cX7_setClock 269 = .ok (.aload 4, 2) := by decide +kernel
theorem dX7_setClock_271 : decode cX7_setClock 271 = .ok (.aload_n 0, 1) := by decide +kernel
theorem dX7_setClock_272 : decode cX7_setClock 272 = .ok (.getfield 39, 3) := by decide +kernel
theorem dX7_setClock_275 : decode cX7_setClock 275 = .ok (.iload_n 2, 1) := by decide +kernel
theorem dX7_setClock_276 : decode cX7_setClock 276 = .ok (.aaload, 1) := by decide +kernel
theorem dX7_setClock_277 : decode cX7_setClock 277 = .ok (.iload_n 3, 1) := by decide +kernel
theorem dX7_setClock_278 : decode cX7_setClock 278 = .ok (.dup2, 1) := by decide +kernel
theorem dX7_setClock_279 : decode cX7_setClock 279 = .ok (.iaload, 1) := by decide +kernel
theorem dX7_setClock_280 : decode cX7_setClock 280 = .ok (.dup_x2, 1) := by decide +kernel
theorem dX7_setClock_281 : decode cX7_setClock 281 = .ok (.iconst 1, 1) := by decide +kernel
theorem dX7_setClock_282 : decode cX7_setClock 282 = .ok (.iadd, 1) := by decide +kernel
theorem dX7_setClock_283 : decode cX7_setClock 283 = .ok (.iastore, 1) := by decide +kernel
theorem dX7_setClock_284 : decode cX7_setClock 284 = .ok (.aaload, 1) := by decide +kernel
theorem dX7_setClock_285 : decode cX7_setClock 285 = .ok (.invokevirtual 153, 3) := by decide +kernel
theorem dX7_setClock_288 : decode cX7_setClock 288 = .ok (.goto (-89), 3) := by decide +kernel
theorem dX7_setClock_291 : decode cX7_setClock 291 = .ok (.iinc 3 1, 3) := by decide +kernel
theorem dX7_setClock_294 : decode cX7_setClock 294 = .ok (.goto (-116), 3) := by decide +kernel
theorem dX7_setClock_297 : decode cX7_setClock 297 = .ok (.iinc 2 1, 3) := by decide +kernel
theorem dX7_setClock_300 : decode cX7_setClock 300 = .ok (.goto (-133), 3) := by decide +kernel
theorem dX7_setClock_303 : decode cX7_setClock 303 = .ok (.aload_n 0, 1) := by decide +kernel
theorem dX7_setClock_304 : decode cX7_setClock 304 = .ok (.invokevirtual 126, 3) := by decide +kernel
theorem dX7_setClock_307 : decode cX7_setClock 307 = .ok (.aload_n 0, 1) := by decide +kernel
theorem dX7_setClock_308 : decode cX7_setClock 308 = .ok (.getfield 10, 3) := by decide +kernel
theorem dX7_setClock_311 : decode cX7_setClock 311 = .ok (.aload_n 0, 1) := by decide +kernel
theorem dX7_setClock_312 : decode cX7_setClock 312 = .ok (.getfield 119, 3) := by decide +kernel
theorem dX7_setClock_315 : decode cX7_setClock 315 = .ok (.invokevirtual 176, 3) := by decide +kernel
theorem dX7_setClock_318 : decode cX7_setClock 318 = .ok (.iload_n 1, 1) := by decide +kernel
theorem dX7_setClock_319 : decode cX7_setClock 319 = .ok (.if_icmp .ne 21, 3) := by decide +kernel
theorem dX7_setClock_322 : decode cX7_setClock 322 = .ok (.aload_n 0, 1) := by decide +kernel
theorem dX7_setClock_323 : decode cX7_setClock 323 = .ok (.getfield 10, 3) := by decide +kernel
theorem dX7_setClock_326 : decode cX7_setClock 326 = .ok (.invokevirtual 179, 3) := by decide +kernel
theorem dX7_setClock_329 : decode cX7_setClock 329 = .ok (.aload_n 0, 1) := by decide +kernel
theorem dX7_setClock_330 : decode cX7_setClock 330 = .ok (.getfield 119, 3) := by decide +kernel
theorem dX7_setClock_333 : decode cX7_setClock 333 = .ok (.if_icmp .ne 7, 3) := by decide +kernel
theorem dX7_setClock_336 : decode cX7_setClock 336 = .ok (.iconst 1, 1) := by decide +kernel
theorem dX7_setClock_337 : decode cX7_setClock 337 = .ok (.goto 4, 3) := by decide +kernel
theorem dX7_setClock_340 : decode cX7_setClock 340 = .ok (.iconst 0, 1) := by decide +kernel
theorem dX7_setClock_341 : decode cX7_setClock 341 = .ok (.ireturn, 1) := by decide +kernel
theorem dX7_setPatience_0 : decode cX7_setPatience 0 = .ok (.aload_n 0, 1) := by decide +kernel
theorem dX7_setPatience_1 : decode cX7_setPatience 1 = .ok (.getfield 16, 3) := by decide +kernel
theorem dX7_setPatience_4 : decode cX7_setPatience 4 = .ok (.istore_n 1, 1) := by decide +kernel
theorem dX7_setPatience_5 : decode cX7_setPatience 5 = .ok (.aload_n 0, 1) := by decide +kernel
theorem dX7_setPatience_6 : decode cX7_setPatience 6 = .ok (.iconst 1, 1) := by decide +kernel
theorem dX7_setPatience_7 : decode cX7_setPatience 7 = .ok (.aload_n 0, 1) := by decide +kernel
theorem dX7_setPatience_8 : decode cX7_setPatience 8 = .ok (.bipush 6, 2) := by decide +kernel
theorem dX7_setPatience_10 : decode cX7_setPatience 10 = .ok (.invokevirtual 94, 3) := by decide +kernel
theorem dX7_setPatience_13 : decode cX7_setPatience 13 = .ok (.iadd, 1) := by decide +kernel
theorem dX7_setPatience_14 : decode cX7_setPatience 14 = .ok (.putfield 16, 3) := by decide +kernel
theorem dX7_setPatience_17 : decode cX7_setPatience 17 = .ok (.aload_n 0, 1) := by decide +kernel
theorem dX7_setPatience_18 : decode cX7_setPatience 18 = .ok (.iconst 1, 1) := by decide +kernel
theorem dX7_setPatience_19 : decode cX7_setPatience 19 = .ok (.aload_n 0, 1) := by decide +kernel
theorem dX7_setPatience_20 : decode cX7_setPatience 20 = .ok (.bipush 12, 2) := by decide +kernel
theorem dX7_setPatience_22 : decode cX7_setPatience 22 = .ok (.invokevirtual 94, 3) := by decide +kernel
theorem dX7_setPatience_25 : decode cX7_setPatience 25 = .ok (.iadd, 1) := by decide +kernel
theorem dX7_setPatience_26 : decode cX7_setPatience 26 = .ok (.putfield 20, 3) := by decide +kernel
theorem dX7_setPatience_29 : decode cX7_setPatience 29 = .ok (.aload_n 0, 1) := by decide +kernel
theorem dX7_setPatience_30 : decode cX7_setPatience 30 = .ok (.getfield 10, 3) := by decide +kernel
theorem dX7_setPatience_33 : decode cX7_setPatience 33 = .ok (.aload_n 0, 1) := by decide +kernel
theorem dX7_setPatience_34 : decode cX7_setPatience 34 = .ok (.getfield 16, 3) := by decide +kernel
theorem dX7_setPatience_37 : decode cX7_setPatience 37 = .ok (.aload_n 0, 1) := by decide +kernel
theorem dX7_setPatience_38 : decode cX7_setPatience 38 = .ok (.getfield 20, 3) := by decide +kernel
theorem dX7_setPatience_41 : decode cX7_setPatience 41 = .ok (.invokevirtual 182, 3) := by decide +kernel
theorem dX7_setPatience_44 : decode cX7_setPatience 44 = .ok (.iload_n 1, 1) := by decide +kernel
theorem dX7_setPatience_45 : decode cX7_setPatience 45 = .ok (.if_icmp .ne 7, 3) := by decide +kernel
theorem dX7_setPatience_48 : decode cX7_setPatience 48 = .ok (.iconst 1, 1) := by decide +kernel
theorem dX7_setPatience_49 : decode cX7_setPatience 49 = .ok (.goto 4, 3) := by decide +kernel
theorem dX7_setPatience_52 : decode cX7_setPatience 52 = .ok (.iconst 0, 1) := by decide +kernel
theorem dX7_setPatience_53 : decode cX7_setPatience 53 = .ok (.ireturn, 1) := by decide +kernel
theorem dX7_addGroup_0 : decode cX7_addGroup 0 = .ok (.aload_n 0, 1) := by decide +kernel
theorem dX7_addGroup_1 : decode cX7_addGroup 1 = .ok (.getfield 105, 3) := by decide +kernel
theorem dX7_addGroup_4 : decode cX7_addGroup 4 = .ok (.iconst 4, 1) := by decide +kernel
theorem dX7_addGroup_5 : decode cX7_addGroup 5 = .ok (.if_icmp .ne 5, 3) := by decide +kernel
theorem dX7_addGroup_8 : decode cX7_addGroup 8 = .ok (.iconst 1, 1) := by decide +kernel
theorem dX7_addGroup_9 : decode cX7_addGroup 9 = .ok (.ireturn, 1) := by decide +kernel
theorem dX7_addGroup_10 : decode cX7_addGroup 10 = .ok (.aload_n 0, 1) := by decide +kernel
theorem dX7_addGroup_11 : decode cX7_addGroup 11 = .ok (.aload_n 0, 1) := by decide +kernel
theorem dX7_addGroup_12 : decode cX7_addGroup 12 = .ok (.getfield 25, 3) := by decide +kernel
theorem dX7_addGroup_15 : decode cX7_addGroup 15 = .ok (.arraylength, 1) := by decide +kernel
theorem dX7_addGroup_16 : decode cX7_addGroup 16 = .ok (.invokevirtual 94, 3) := by decide +kernel
theorem dX7_addGroup_19 : decode cX7_addGroup 19 = .ok (.istore_n 1, 1) := by decide +kernel
theorem dX7_addGroup_20 : decode cX7_addGroup 20 = .ok (.aload_n 0, 1) := by decide +kernel
theorem dX7_addGroup_21 : decode cX7_addGroup 21 = .ok (.getfield 51, 3) := by decide +kernel
theorem dX7_addGroup_24 : decode cX7_addGroup 24 = .ok (.aload_n 0, 1) := by decide +kernel
theorem dX7_addGroup_25 : decode cX7_addGroup 25 = .ok (.getfield 105, 3) := by decide +kernel
theorem dX7_addGroup_28 : decode cX7_addGroup 28 = .ok (.iload_n 1, 1) := by decide +kernel
theorem dX7_addGroup_29 : decode cX7_addGroup 29 = .ok (.iastore, 1) := by decide +kernel
theorem dX7_addGroup_30 : decode cX7_addGroup 30 = .ok (.iconst 0, 1) := by decide +kernel
theorem dX7_addGroup_31 : decode cX7_addGroup 31 = .ok (.istore_n 2, 1) := by decide +kernel
theorem dX7_addGroup_32 : decode cX7_addGroup 32 = .ok (.iload_n 2, 1) := by decide +kernel
theorem dX7_addGroup_33 : decode cX7_addGroup 33 = .ok (.iconst 4, 1) := by decide +kernel
theorem dX7_addGroup_34 : decode cX7_addGroup 34 = .ok (.if_icmp .ge 59, 3) := by decide +kernel
theorem dX7_addGroup_37 : decode cX7_addGroup 37 = .ok (.aload_n 0, 1) := by decide +kernel
theorem dX7_addGroup_38 : decode cX7_addGroup 38 = .ok (.getfield 54, 3) := by decide +kernel
theorem dX7_addGroup_41 : decode cX7_addGroup 41 = .ok (.aload_n 0, 1) := by decide +kernel
theorem dX7_addGroup_42 : decode cX7_addGroup 42 = .ok (.getfield 105, 3) := by decide +kernel
theorem dX7_addGroup_45 : decode cX7_addGroup 45 = .ok (.aaload, 1) := by decide +kernel
theorem dX7_addGroup_46 : decode cX7_addGroup 46 = .ok (.iload_n 2, 1) := by decide +kernel
theorem dX7_addGroup_47 : decode cX7_addGroup 47 = .ok (.aload_n 0, 1) := by decide +kernel
theorem dX7_addGroup_48 : decode cX7_addGroup 48 = .ok (.getfield 39, 3) := by decide +kernel
theorem dX7_addGroup_51 : decode cX7_addGroup 51 = .ok (.iload_n 1, 1) := by decide +kernel
theorem dX7_addGroup_52 : decode cX7_addGroup 52 = .ok (.aaload, 1) := by decide +kernel
theorem dX7_addGroup_53 : decode cX7_addGroup 53 = .ok (.iload_n 2, 1) := by decide +kernel
theorem dX7_addGroup_54 : decode cX7_addGroup 54 = .ok (.iaload, 1) := by decide +kernel
theorem dX7_addGroup_55 : decode cX7_addGroup 55 = .ok (.iastore, 1) := by decide +kernel
theorem dX7_addGroup_56 : decode cX7_addGroup 56 = .ok (.aload_n 0, 1) := by decide +kernel
theorem dX7_addGroup_57 : decode cX7_addGroup 57 = .ok (.getfield 57, 3) := by decide +kernel
theorem dX7_addGroup_60 : decode cX7_addGroup 60 = .ok (.aload_n 0, 1) := by decide +kernel
theorem dX7_addGroup_61 : decode cX7_addGroup 61 = .ok (.getfield 105, 3) := by decide +kernel
theorem dX7_addGroup_64 : decode cX7_addGroup 64 = .ok (.aaload, 1) := by decide +kernel
theorem dX7_addGroup_65 : decode cX7_addGroup 65 = .ok (.iload_n 2, 1) := by decide +kernel
theorem dX7_addGroup_66 : decode cX7_addGroup 66 = .ok (.aload_n 0, 1) := by decide +kernel
theorem dX7_addGroup_67 : decode cX7_addGroup 67 = .ok (.getfield 39, 3) := by decide +kernel
theorem dX7_addGroup_70 : decode cX7_addGroup 70 = .ok (.iload_n 1, 1) := by decide +kernel
theorem dX7_addGroup_71 : decode cX7_addGroup 71 = .ok (.aaload, 1) := by decide +kernel
theorem dX7_addGroup_72 : decode cX7_addGroup 72 = .ok (.iload_n 2, 1) := by decide +kernel
theorem dX7_addGroup_73 : decode cX7_addGroup 73 = .ok (.iaload, 1) := by decide +kernel
theorem dX7_addGroup_74 : decode cX7_addGroup 74 = .ok (.iastore, 1) := by decide +kernel
theorem dX7_addGroup_75 : decode cX7_addGroup 75 = .ok (.aload_n 0, 1) := by decide +kernel
theorem dX7_addGroup_76 : decode cX7_addGroup 76 = .ok (.getfield 60, 3) := by decide +kernel
theorem dX7_addGroup_79 : decode cX7_addGroup 79 = .ok (.aload_n 0, 1) := by decide +kernel
theorem dX7_addGroup_80 : decode cX7_addGroup 80 = .ok (.getfield 105, 3) := by decide +kernel
theorem dX7_addGroup_83 : decode cX7_addGroup 83 = .ok (.aaload, 1) := by decide +kernel
theorem dX7_addGroup_84 : decode cX7_addGroup 84 = .ok (.iload_n 2, 1) := by decide +kernel
theorem dX7_addGroup_85 : decode cX7_addGroup 85 = .ok (.iconst (-1), 1) := by decide +kernel
theorem dX7_addGroup_86 : decode cX7_addGroup 86 = .ok (.iastore, 1) := by decide +kernel
theorem dX7_addGroup_87 : decode cX7_addGroup 87 = .ok (.iinc 2 1, 3) := by decide +kernel
theorem dX7_addGroup_90 : decode cX7_addGroup 90 = .ok (.goto (-58), 3) := by decide +kernel
theorem dX7_addGroup_93 : decode cX7_addGroup 93 = .ok (.aload_n 0, 1) := by decide +kernel
theorem dX7_addGroup_94 : decode cX7_addGroup 94 = .ok (.dup, 1) := by decide +kernel
theorem dX7_addGroup_95 : decode cX7_addGroup 95 = .ok (.getfield 105, 3) := by decide +kernel
theorem dX7_addGroup_98 : decode cX7_addGroup 98 = .ok (.iconst 1, 1) := by decide +kernel
theorem dX7_addGroup_99 : decode cX7_addGroup 99 = .ok (.iadd, 1) := by decide +kernel
theorem dX7_addGroup_100 : decode cX7_addGroup 100 = .ok (.putfield 105, 3) := by decide +kernel
theorem dX7_addGroup_103 : decode cX7_addGroup 103 = .ok (.aload_n 0, 1) := by decide +kernel
theorem dX7_addGroup_104 : decode cX7_addGroup 104 = .ok (.invokevirtual 126, 3) := by decide +kernel
theorem dX7_addGroup_107 : decode cX7_addGroup 107 = .ok (.aload_n 0, 1) := by decide +kernel
theorem dX7_addGroup_108 : decode cX7_addGroup 108 = .ok (.getfield 10, 3) := by decide +kernel
theorem dX7_addGroup_111 : decode cX7_addGroup 111 = .ok (.iload_n 1, 1) := by decide +kernel
theorem dX7_addGroup_112 : decode cX7_addGroup 112 = .ok (.invokevirtual 185, 3) := by decide +kernel
theorem dX7_addGroup_115 : decode cX7_addGroup 115 = .ok (.aload_n 0, 1) := by decide +kernel
theorem dX7_addGroup_116 : decode cX7_addGroup 116 = .ok (.getfield 105, 3) := by decide +kernel
theorem dX7_addGroup_119 : decode cX7_addGroup 119 = .ok (.iconst 1, 1) := by decide +kernel
theorem dX7_addGroup_120 : decode cX7_addGroup 120 = .ok (.isub, 1) := by decide +kernel
theorem dX7_addGroup_121 : decode cX7_addGroup 121 = .ok (.if_icmp .ne 7, 3) := by decide +kernel
theorem dX7_addGroup_124 : decode cX7_addGroup 124 = .ok (.iconst 1, 1) := by decide +kernel
theorem dX7_addGroup_125 : decode cX7_addGroup 125 = .ok (.goto 4, 3) := by decide +kernel
theorem dX7_addGroup_128 : decode cX7_addGroup 128 = .ok (.iconst 0, 1) := by decide +kernel
theorem dX7_addGroup_129 : decode cX7_addGroup 129 = .ok (.ireturn, 1) := by decide +kernel
theorem dX7_share_0 : decode cX7_share 0 = .ok (.aload_n 0, 1) := by decide +kernel
theorem dX7_share_1 : decode cX7_share 1 = .ok (.getfield 25, 3) := by decide +kernel
theorem dX7_share_4 : decode cX7_share 4 = .ok (.aload_n 0, 1) := by decide +kernel
theorem dX7_share_5 : decode cX7_share 5 = .ok (.getfield 51, 3) := by decide +kernel
theorem dX7_share_8 : decode cX7_share 8 = .ok (.iload_n 1, 1) := by decide +kernel
theorem dX7_share_9 : decode cX7_share 9 = .ok (.iaload, 1) := by decide +kernel
theorem dX7_share_10 : decode cX7_share 10 = .ok (.aaload, 1) := by decide +kernel
theorem dX7_share_11 : decode cX7_share 11 = .ok (.arraylength, 1) := by decide +kernel
theorem dX7_share_12 : decode cX7_share 12 = .ok (.istore 4, 2) := by decide +kernel
theorem dX7_share_14 : decode cX7_share 14 = .ok (.iconst 0, 1) := by decide +kernel
theorem dX7_share_15 : decode cX7_share 15 = .ok (.istore 5, 2) := by decide +kernel
theorem dX7_share_17 : decode cX7_share 17 = .ok (.aload_n 2, 1) := by decide +kernel
theorem dX7_share_18 : decode cX7_share 18 = .ok (.astore 6, 2) := by decide +kernel
theorem dX7_share_20 : decode cX7_share 20 = .ok (.aload 6, 2) := by decide +kernel
theorem dX7_share_22 : decode cX7_share 22 = .ok (.arraylength, 1) := by decide +kernel
theorem dX7_share_23 : decode cX7_share 23 = .ok (.istore 7, 2) := by decide +kernel
theorem dX7_share_25 : decode cX7_share 25 = .ok (.iconst 0, 1) := by decide +kernel
theorem dX7_share_26 : decode cX7_share 26 = .ok (.istore 8, 2) := by decide +kernel
theorem dX7_share_28 : decode cX7_share 28 = .ok (.iload 8, 2) := by decide +kernel
theorem dX7_share_30 : decode cX7_share 30 = .ok (.iload 7, 2) := by decide +kernel
theorem dX7_share_32 : decode cX7_share 32 = .ok (.if_icmp .ge 31, 3) := by decide +kernel
theorem dX7_share_35 : decode cX7_share 35 = .ok (.aload 6, 2) := by decide +kernel
theorem dX7_share_37 : decode cX7_share 37 = .ok (.iload 8, 2) := by decide +kernel
theorem dX7_share_39 : decode cX7_share 39 = .ok (.baload, 1) := by decide +kernel
theorem dX7_share_40 : decode cX7_share 40 = .ok (.istore 9, 2) := by decide +kernel
theorem dX7_share_42 : decode cX7_share 42 = .ok (.iload 5, 2) := by decide +kernel
theorem dX7_share_44 : decode cX7_share 44 = .ok (.iload 9, 2) := by decide +kernel
theorem dX7_share_46 : decode cX7_share 46 = .ok (.ifCond .eq 7, 3) := by decide +kernel
theorem dX7_share_49 : decode cX7_share 49 = .ok (.iconst 1, 1) := by decide +kernel
theorem dX7_share_50 : decode cX7_share 50 = .ok (.goto 4, 3) := by decide +kernel
theorem dX7_share_53 : decode cX7_share 53 = .ok (.iconst 0, 1) := by decide +kernel
theorem dX7_share_54 : decode cX7_share 54 = .ok (.iadd, 1) := by decide +kernel
theorem dX7_share_55 : decode cX7_share 55 = .ok (.istore 5, 2) := by decide +kernel
theorem dX7_share_57 : decode cX7_share 57 = .ok (.iinc 8 1, 3) := by decide +kernel
theorem dX7_share_60 : decode cX7_share 60 = .ok (.goto (-32), 3) := by decide +kernel
theorem dX7_share_63 : decode cX7_share 63 = .ok (.iconst 0, 1) := by decide +kernel
theorem dX7_share_64 : decode cX7_share 64 = .ok (.istore 6, 2) := by decide +kernel
theorem dX7_share_66 : decode cX7_share 66 = .ok (.iload 5, 2) := by decide +kernel
theorem dX7_share_68 : decode cX7_share 68 = .ok (.istore 7, 2) := by decide +kernel
theorem dX7_share_70 : decode cX7_share 70 = .ok (.iconst 0, 1) := by decide +kernel
theorem dX7_share_71 : decode cX7_share 71 = .ok (.istore 8, 2) := by decide +kernel
theorem dX7_share_73 : decode cX7_share 73 = .ok (.iload 8, 2) := by decide +kernel
theorem dX7_share_75 : decode cX7_share 75 = .ok (.bipush 6, 2) := by decide +kernel
theorem dX7_share_77 : decode cX7_share 77 = .ok (.if_icmp .ge 56, 3) := by decide +kernel
theorem dX7_share_80 : decode cX7_share 80 = .ok (.aload_n 2, 1) := by decide +kernel
theorem dX7_share_81 : decode cX7_share 81 = .ok (.iload 8, 2) := by decide +kernel
theorem dX7_share_83 : decode cX7_share 83 = .ok (.baload, 1) := by decide +kernel
theorem dX7_share_84 : decode cX7_share 84 = .ok (.ifCond .ne 6, 3) := by decide +kernel
theorem dX7_share_87 : decode cX7_share 87 = .ok (.goto 40, 3) := by decide +kernel
theorem dX7_share_90 : decode cX7_share 90 = .ok (.iload 4, 2) := by decide +kernel
theorem dX7_share_92 : decode cX7_share 92 = .ok (.iload 6, 2) := by decide +kernel
theorem dX7_share_94 : decode cX7_share 94 = .ok (.isub, 1) := by decide +kernel
theorem dX7_share_95 : decode cX7_share 95 = .ok (.iload 7, 2) := by decide +kernel
theorem dX7_share_97 : decode cX7_share 97 = .ok (.iadd, 1) := by decide +kernel
theorem dX7_share_98 : decode cX7_share 98 = .ok (.iconst 1, 1) := by decide +kernel
theorem dX7_share_99 : decode cX7_share 99 = .ok (.isub, 1) := by decide +kernel
theorem dX7_share_100 : decode cX7_share 100 = .ok (.iload 7, 2) := by decide +kernel
theorem dX7_share_102 : decode cX7_share 102 = .ok (.idiv, 1) := by decide +kernel
theorem dX7_share_103 : decode cX7_share 103 = .ok (.istore 9, 2) := by decide +kernel
theorem dX7_share_105 : decode cX7_share 105 = .ok (.iload_n 3, 1) := by decide +kernel
theorem dX7_share_106 : decode cX7_share 106 = .ok (.iload 6, 2) := by decide +kernel
theorem dX7_share_108 : decode cX7_share 108 = .ok (.iload 9, 2) := by decide +kernel
theorem dX7_share_110 : decode cX7_share 110 = .ok (.iadd, 1) := by decide +kernel
theorem dX7_share_111 : decode cX7_share 111 = .ok (.if_icmp .ge 6, 3) := by decide +kernel
theorem dX7_share_114 : decode cX7_share 114 = .ok (.iload 8, 2) := by decide +kernel
theorem dX7_share_116 : decode cX7_share 116 = .ok (.ireturn, 1) := by decide +kernel
theorem dX7_share_117 : decode cX7_share 117 = .ok (.iload 6, 2) := by decide +kernel
theorem dX7_share_119 : decode cX7_share 119 = .ok (.iload 9, 2) := by decide +kernel
theorem dX7_share_121 : decode cX7_share 121 = .ok (.iadd, 1) := by decide +kernel
theorem dX7_share_122 : decode cX7_share 122 = .ok (.istore 6, 2) := by decide +kernel
theorem dX7_share_124 : decode cX7_share 124 = .ok (.iinc 7 (-1), 3) := by decide +kernel
theorem dX7_share_127 : decode cX7_share 127 = .ok (.iinc 8 1, 3) := by decide +kernel
theorem dX7_share_130 : decode cX7_share 130 = .ok (.goto (-57), 3) := by decide +kernel
theorem dX7_share_133 : decode cX7_share 133 = .ok (.iconst (-1), 1) := by decide +kernel
theorem dX7_share_134 : decode cX7_share 134 = .ok (.ireturn, 1) := by decide +kernel
theorem dX7_join_0 : decode cX7_join 0 = .ok (.aload_n 0, 1) := by decide +kernel
theorem dX7_join_1 : decode cX7_join 1 = .ok (.aload_n 0, 1) := by decide +kernel
theorem dX7_join_2 : decode cX7_join 2 = .ok (.getfield 105, 3) := by decide +kernel
theorem dX7_join_5 : decode cX7_join 5 = .ok (.invokevirtual 94, 3) := by decide +kernel
theorem dX7_join_8 : decode cX7_join 8 = .ok (.istore_n 1, 1) := by decide +kernel
theorem dX7_join_9 : decode cX7_join 9 = .ok (.aload_n 0, 1) := by decide +kernel
theorem dX7_join_10 : decode cX7_join 10 = .ok (.iconst 4, 1) := by decide +kernel
theorem dX7_join_11 : decode cX7_join 11 = .ok (.invokevirtual 94, 3) := by decide +kernel
theorem dX7_join_14 : decode cX7_join 14 = .ok (.istore_n 2, 1) := by decide +kernel
theorem dX7_join_15 : decode cX7_join 15 = .ok (.aload_n 0, 1) := by decide +kernel
theorem dX7_join_16 : decode cX7_join 16 = .ok (.getfield 65, 3) := by decide +kernel
theorem dX7_join_19 : decode cX7_join 19 = .ok (.iload_n 1, 1) := by decide +kernel
theorem dX7_join_20 : decode cX7_join 20 = .ok (.aaload, 1) := by decide +kernel
theorem dX7_join_21 : decode cX7_join 21 = .ok (.iload_n 2, 1) := by decide +kernel
theorem dX7_join_22 : decode cX7_join 22 = .ok (.baload, 1) := by decide +kernel
theorem dX7_join_23 : decode cX7_join 23 = .ok (.istore_n 3, 1) := by decide +kernel
theorem dX7_join_24 : decode cX7_join 24 = .ok (.aload_n 0, 1) := by decide +kernel
theorem dX7_join_25 : decode cX7_join 25 = .ok (.iconst 4, 1) := by decide +kernel
theorem dX7_join_26 : decode cX7_join 26 = .ok (.invokevirtual 94, 3) := by decide +kernel
theorem dX7_join_29 : decode cX7_join 29 = .ok (.ifCond .le 7, 3) := by decide +kernel
theorem dX7_join_32 : decode cX7_join 32 = .ok (.iconst 1, 1) := by decide +kernel
theorem dX7_join_33 : decode cX7_join 33 = .ok (.goto 4, 3) := by decide +kernel
theorem dX7_join_36 : decode cX7_join 36 = .ok (.iconst 0, 1) := by decide +kernel
theorem dX7_join_37 : decode cX7_join 37 = .ok (.istore 4, 2) := by decide +kernel
theorem dX7_join_39 : decode cX7_join 39 = .ok (.aload_n 0, 1) := by decide +kernel
theorem dX7_join_40 : decode cX7_join 40 = .ok (.getfield 65, 3) := by decide +kernel
theorem dX7_join_43 : decode cX7_join 43 = .ok (.iload_n 1, 1) := by decide +kernel
theorem dX7_join_44 : decode cX7_join 44 = .ok (.aaload, 1) := by decide +kernel
theorem dX7_join_45 : decode cX7_join 45 = .ok (.iload_n 2, 1) := by decide +kernel
theorem dX7_join_46 : decode cX7_join 46 = .ok (.iload 4, 2) := by decide +kernel
theorem dX7_join_48 : decode cX7_join 48 = .ok (.bastore, 1) := by decide +kernel
theorem dX7_join_49 : decode cX7_join 49 = .ok (.iconst 0, 1) := by decide +kernel
theorem dX7_join_50 : decode cX7_join 50 = .ok (.istore 5, 2) := by decide +kernel
theorem dX7_join_52 : decode cX7_join 52 = .ok (.iload 5, 2) := by decide +kernel
theorem dX7_join_54 : decode cX7_join 54 = .ok (.aload_n 0, 1) := by decide +kernel
theorem dX7_join_55 : decode cX7_join 55 = .ok (.getfield 25, 3) := by decide +kernel
theorem dX7_join_58 : decode cX7_join 58 = .ok (.aload_n 0, 1) := by decide +kernel
theorem dX7_join_59 : decode cX7_join 59 = .ok (.getfield 51, 3) := by decide +kernel
theorem dX7_join_62 : decode cX7_join 62 = .ok (.iload_n 1, 1) := by decide +kernel
theorem dX7_join_63 : decode cX7_join 63 = .ok (.iaload, 1) := by decide +kernel
theorem dX7_join_64 : decode cX7_join 64 = .ok (.aaload, 1) := by decide +kernel
theorem dX7_join_65 : decode cX7_join 65 = .ok (.arraylength, 1) := by decide +kernel
theorem dX7_join_66 : decode cX7_join 66 = .ok (.if_icmp .ge 139, 3) := by decide +kernel
theorem dX7_join_69 : decode cX7_join 69 = .ok (.iload 4, 2) := by decide +kernel
theorem dX7_join_71 : decode cX7_join 71 = .ok (.iload_n 3, 1) := by decide +kernel
theorem dX7_join_72 : decode cX7_join 72 = .ok (.if_icmp .eq 133, 3) := by decide +kernel
theorem dX7_join_75 : decode cX7_join 75 = .ok (.aload_n 0, 1) := by decide +kernel
theorem dX7_join_76 : decode cX7_join 76 = .ok (.iload_n 1, 1) := by decide +kernel
theorem dX7_join_77 : decode cX7_join 77 = .ok (.aload_n 0, 1) := by decide +kernel
theorem dX7_join_78 : decode cX7_join 78 = .ok (.getfield 65, 3) := by decide +kernel
theorem dX7_join_81 : decode cX7_join 81 = .ok (.iload_n 1, 1) := by decide +kernel
theorem dX7_join_82 : decode cX7_join 82 = .ok (.aaload, 1) := by decide +kernel
theorem dX7_join_83 : decode cX7_join 83 = .ok (.iload 5, 2) := by decide +kernel
theorem dX7_join_85 : decode cX7_join 85 = .ok (.invokevirtual 188, 3) := by decide +kernel
theorem dX7_join_88 : decode cX7_join 88 = .ok (.istore 6, 2) := by decide +kernel
theorem dX7_join_90 : decode cX7_join 90 = .ok (.iload 6, 2) := by decide +kernel
theorem dX7_join_92 : decode cX7_join 92 = .ok (.aload_n 0, 1) := by decide +kernel
theorem dX7_join_93 : decode cX7_join 93 = .ok (.getfield 60, 3) := by decide +kernel
theorem dX7_join_96 : decode cX7_join 96 = .ok (.iload_n 1, 1) := by decide +kernel
theorem dX7_join_97 : decode cX7_join 97 = .ok (.aaload, 1) := by decide +kernel
theorem dX7_join_98 : decode cX7_join 98 = .ok (.iload 5, 2) := by decide +kernel
theorem dX7_join_100 : decode cX7_join 100 = .ok (.iaload, 1) := by decide +kernel
theorem dX7_join_101 : decode cX7_join 101 = .ok (.if_icmp .ne 6, 3) := by decide +kernel
theorem dX7_join_104 : decode cX7_join 104 = .ok (.goto 95, 3) := by decide +kernel
theorem dX7_join_107 : decode cX7_join 107 = .ok (.aload_n 0, 1) := by decide +kernel
theorem dX7_join_108 : decode cX7_join 108 = .ok (.getfield 60, 3) := by decide +kernel
theorem dX7_join_111 : decode cX7_join 111 = .ok (.iload_n 1, 1) := by decide +kernel
theorem dX7_join_112 : decode cX7_join 112 = .ok (.aaload, 1) := by decide +kernel
theorem dX7_join_113 : decode cX7_join 113 = .ok (.iload 5, 2) := by decide +kernel
theorem dX7_join_115 : decode cX7_join 115 = .ok (.iload 6, 2) := by decide +kernel
theorem dX7_join_117 : decode cX7_join 117 = .ok (.iastore, 1) := by decide +kernel
theorem dX7_join_118 : decode cX7_join 118 = .ok (.aload_n 0, 1) := by decide +kernel
theorem dX7_join_119 : decode cX7_join 119 = .ok (.getfield 25, 3) := by decide +kernel
theorem dX7_join_122 : decode cX7_join 122 = .ok (.aload_n 0, 1) := by decide +kernel
theorem dX7_join_123 : decode cX7_join 123 = .ok (.getfield 51, 3) := by decide +kernel
theorem dX7_join_126 : decode cX7_join 126 = .ok (.iload_n 1, 1) := by decide +kernel
theorem dX7_join_127 : decode cX7_join 127 = .ok (.iaload, 1) := by decide +kernel
theorem dX7_join_128 : decode cX7_join 128 = .ok (.aaload, 1) := by decide +kernel
theorem dX7_join_129 : decode cX7_join 129 = .ok (.iload 5, 2) := by decide +kernel
theorem dX7_join_131 : decode cX7_join 131 = .ok (.aaload, 1) := by decide +kernel
theorem dX7_join_132 : decode cX7_join 132 = .ok (.astore 7, 2) := by decide +kernel
theorem dX7_join_134 : decode cX7_join 134 = .ok (.aload 7, 2) := by decide +kernel
theorem dX7_join_136 : decode cX7_join 136 = .ok (.arraylength, 1) := by decide +kernel
theorem dX7_join_137 : decode cX7_join 137 = .ok (.istore 8, 2) := by decide +kernel
theorem dX7_join_139 : decode cX7_join 139 = .ok (.iconst 0, 1) := by decide +kernel
theorem dX7_join_140 : decode cX7_join 140 = .ok (.istore 9, 2) := by decide +kernel
theorem dX7_join_142 : decode cX7_join 142 = .ok (.iload 9, 2) := by decide +kernel
theorem dX7_join_144 : decode cX7_join 144 = .ok (.iload 8, 2) := by decide +kernel
theorem dX7_join_146 : decode cX7_join 146 = .ok (.if_icmp .ge 35, 3) := by decide +kernel
theorem dX7_join_149 : decode cX7_join 149 = .ok (.aload 7, 2) := by decide +kernel
theorem dX7_join_151 : decode cX7_join 151 = .ok (.iload 9, 2) := by decide +kernel
theorem dX7_join_153 : decode cX7_join 153 = .ok (.aaload, 1) := by decide +kernel
theorem dX7_join_154 : decode cX7_join 154 = .ok (.astore 10, 2) := by decide +kernel
theorem dX7_join_156 : decode cX7_join 156 = .ok (.aload 10, 2) := by decide +kernel
theorem dX7_join_158 : decode cX7_join 158 = .ok (.iconst 5, 1) := by decide +kernel
theorem dX7_join_159 : decode cX7_join 159 = .ok (.iconst 3, 1) := by decide +kernel
theorem dX7_join_160 : decode cX7_join 160 = .ok (.iload_n 1, 1) := by decide +kernel
theorem dX7_join_161 : decode cX7_join 161 = .ok (.imul, 1) := by decide +kernel
theorem dX7_join_162 : decode cX7_join 162 = .ok (.iadd, 1) := by decide +kernel
theorem dX7_join_163 : decode cX7_join 163 = .ok (.iaload, 1) := by decide +kernel
theorem dX7_join_164 : decode cX7_join 164 = .ok (.iconst 1, 1) := by decide +kernel
theorem dX7_join_165 : decode cX7_join 165 = .ok (.if_icmp .ne 10, 3) := by decide +kernel
theorem dX7_join_168 : decode cX7_join 168 = .ok (.aload_n 0, 1) := by decide +kernel
theorem dX7_join_169 : decode cX7_join 169 = .ok (.aload 10, 2) := by decide +kernel
theorem dX7_join_171 : decode cX7_join 171 = .ok (.iload_n 1, 1) := by decide +kernel
theorem dX7_join_172 : decode cX7_join 172 = .ok (.invokevirtual 145, 3) := by decide +kernel
theorem dX7_join_175 : decode cX7_join 175 = .ok (.iinc 9 1, 3) := by decide +kernel
theorem dX7_join_178 : decode cX7_join 178 = .ok (.goto (-36), 3) := by decide +kernel
theorem dX7_join_181 : decode cX7_join 181 = .ok (.aload_n 0, 1) := by decide +kernel
theorem dX7_join_182 : decode cX7_join 182 = .ok (.getfield 57, 3) := by decide +kernel
theorem dX7_join_185 : decode cX7_join 185 = .ok (.iload_n 1, 1) := by decide +kernel
theorem dX7_join_186 : decode cX7_join 186 = .ok (.aaload, 1) := by decide +kernel
theorem dX7_join_187 : decode cX7_join 187 = .ok (.iload 5, 2) := by decide +kernel
theorem dX7_join_189 : decode cX7_join 189 = .ok (.aload_n 0, 1) := by decide +kernel
theorem dX7_join_190 : decode cX7_join 190 = .ok (.getfield 54, 3) := by decide +kernel
theorem dX7_join_193 : decode cX7_join 193 = .ok (.iload_n 1, 1) := by decide +kernel
theorem dX7_join_194 : decode cX7_join 194 = .ok (.aaload, 1) := by decide +kernel
theorem dX7_join_195 : decode cX7_join 195 = .ok (.iload 5, 2) := by decide +kernel
theorem dX7_join_197 : decode cX7_join 197 = .ok (.iaload, 1) := by decide +kernel
theorem dX7_join_198 : decode cX7_join 198 = .ok (.iastore, 1) := by decide +kernel
theorem dX7_join_199 : decode cX7_join 199 = .ok (.iinc 5 1, 3) := by decide +kernel
theorem dX7_join_202 : decode cX7_join 202 = .ok (.goto (-150), 3) := by decide +kernel
theorem dX7_join_205 : decode cX7_join 205 = .ok (.aload_n 0, 1) := by decide +kernel
theorem dX7_join_206 : decode cX7_join 206 = .ok (.invokevirtual 126, 3) := by decide +kernel
theorem dX7_join_209 : decode cX7_join 209 = .ok (.aload_n 0, 1) := by decide +kernel
theorem dX7_join_210 : decode cX7_join 210 = .ok (.getfield 10, 3) := by decide +kernel
theorem dX7_join_213 : decode cX7_join 213 = .ok (.iload_n 1, 1) := by decide +kernel
theorem dX7_join_214 : decode cX7_join 214 = .ok (.iload_n 2, 1) := by decide +kernel
theorem dX7_join_215 : decode cX7_join 215 = .ok (.iload 4, 2) := by decide +kernel
theorem dX7_join_217 : decode cX7_join 217 = .ok (.invokevirtual 192, 3) := by decide +kernel
theorem dX7_join_220 : decode cX7_join 220 = .ok (.iload_n 3, 1) := by decide +kernel
theorem dX7_join_221 : decode cX7_join 221 = .ok (.if_icmp .ne 7, 3) := by decide +kernel
theorem dX7_join_224 : decode cX7_join 224 = .ok (.iconst 1, 1) := by decide +kernel
theorem dX7_join_225 : decode cX7_join 225 = .ok (.goto 4, 3) := by decide +kernel
theorem dX7_join_228 : decode cX7_join 228 = .ok (.iconst 0, 1) := by decide +kernel
theorem dX7_join_229 : decode cX7_join 229 = .ok (.ireturn, 1) := by decide +kernel
theorem dX7_gives_0 : decode cX7_gives 0 = .ok (.aload_n 0, 1) := by decide +kernel
theorem dX7_gives_1 : decode cX7_gives 1 = .ok (.getfield 25, 3) := by decide +kernel
theorem dX7_gives_4 : decode cX7_gives 4 = .ok (.aload_n 0, 1) := by decide +kernel
theorem dX7_gives_5 : decode cX7_gives 5 = .ok (.getfield 51, 3) := by decide +kernel
theorem dX7_gives_8 : decode cX7_gives 8 = .ok (.iload_n 1, 1) := by decide +kernel
theorem dX7_gives_9 : decode cX7_gives 9 = .ok (.iaload, 1) := by decide +kernel
theorem dX7_gives_10 : decode cX7_gives 10 = .ok (.aaload, 1) := by decide +kernel
theorem dX7_gives_11 : decode cX7_gives 11 = .ok (.iload_n 2, 1) := by decide +kernel
theorem dX7_gives_12 : decode cX7_gives 12 = .ok (.aaload, 1) := by decide +kernel
theorem dX7_gives_13 : decode cX7_gives 13 = .ok (.astore_n 3, 1) := by decide +kernel
theorem dX7_gives_14 : decode cX7_gives 14 = .ok (.aload_n 0, 1) := by decide +kernel
theorem dX7_gives_15 : decode cX7_gives 15 = .ok (.getfield 54, 3) := by decide +kernel
theorem dX7_gives_18 : decode cX7_gives 18 = .ok (.iload_n 1, 1) := by decide +kernel
theorem dX7_gives_19 : decode cX7_gives 19 = .ok (.aaload, 1) := by decide +kernel
theorem dX7_gives_20 : decode cX7_gives 20 = .ok (.iload_n 2, 1) := by decide +kernel
theorem dX7_gives_21 : decode cX7_gives 21 = .ok (.iaload, 1) := by decide +kernel
theorem dX7_gives_22 : decode cX7_gives 22 = .ok (.istore 4, 2) := by decide +kernel
theorem dX7_gives_24 : decode cX7_gives 24 = .ok (.iload 4, 2) := by decide +kernel
theorem dX7_gives_26 : decode cX7_gives 26 = .ok (.aload_n 3, 1) := by decide +kernel
theorem dX7_gives_27 : decode cX7_gives 27 = .ok (.arraylength, 1) := by decide +kernel
theorem dX7_gives_28 : decode cX7_gives 28 = .ok (.if_icmp .ge 44, 3) := by decide +kernel
theorem dX7_gives_31 : decode cX7_gives 31 = .ok (.aload_n 3, 1) := by decide +kernel
theorem dX7_gives_32 : decode cX7_gives 32 = .ok (.iload 4, 2) := by decide +kernel
theorem dX7_gives_34 : decode cX7_gives 34 = .ok (.aaload, 1) := by decide +kernel
theorem dX7_gives_35 : decode cX7_gives 35 = .ok (.iconst 5, 1) := by decide +kernel
theorem dX7_gives_36 : decode cX7_gives 36 = .ok (.iconst 3, 1) := by decide +kernel
theorem dX7_gives_37 : decode cX7_gives 37 = .ok (.iload_n 1, 1) := by decide +kernel
theorem dX7_gives_38 : decode cX7_gives 38 = .ok (.imul, 1) := by decide +kernel
theorem dX7_gives_39 : decode cX7_gives 39 = .ok (.iadd, 1) := by decide +kernel
theorem dX7_gives_40 : decode cX7_gives 40 = .ok (.iaload, 1) := by decide +kernel
theorem dX7_gives_41 : decode cX7_gives 41 = .ok (.iconst 2, 1) := by decide +kernel
theorem dX7_gives_42 : decode cX7_gives 42 = .ok (.if_icmp .ne 24, 3) := by decide +kernel
theorem dX7_gives_45 : decode cX7_gives 45 = .ok (.aload_n 3, 1) := by decide +kernel
theorem dX7_gives_46 : decode cX7_gives 46 = .ok (.iload 4, 2) := by decide +kernel
theorem dX7_gives_48 : decode cX7_gives 48 = .ok (.aaload, 1) := by decide +kernel
theorem dX7_gives_49 : decode cX7_gives 49 = .ok (.bipush 7, 2) := by decide +kernel
theorem dX7_gives_51 : decode cX7_gives 51 = .ok (.iconst 3, 1) := by decide +kernel
theorem dX7_gives_52 : decode cX7_gives 52 = .ok (.iload_n 1, 1) := by decide +kernel
theorem dX7_gives_53 : decode cX7_gives 53 = .ok (.imul, 1) := by decide +kernel
theorem dX7_gives_54 : decode cX7_gives 54 = .ok (.iadd, 1) := by decide +kernel
theorem dX7_gives_55 : decode cX7_gives 55 = .ok (.iaload, 1) := by decide +kernel
theorem dX7_gives_56 : decode cX7_gives 56 = .ok (.aload_n 0, 1) := by decide +kernel
theorem dX7_gives_57 : decode cX7_gives 57 = .ok (.getfield 119, 3) := by decide +kernel
theorem dX7_gives_60 : decode cX7_gives 60 = .ok (.if_icmp .gt 6, 3) := by decide +kernel
theorem dX7_gives_63 : decode cX7_gives 63 = .ok (.iload 4, 2) := by decide +kernel
theorem dX7_gives_65 : decode cX7_gives 65 = .ok (.ireturn, 1) := by decide +kernel
theorem dX7_gives_66 : decode cX7_gives 66 = .ok (.iinc 4 1, 3) := by decide +kernel
theorem dX7_gives_69 : decode cX7_gives 69 = .ok (.goto (-45), 3) := by decide +kernel
theorem dX7_gives_72 : decode cX7_gives 72 = .ok (.aload_n 0, 1) := by decide +kernel
theorem dX7_gives_73 : decode cX7_gives 73 = .ok (.getfield 57, 3) := by decide +kernel
theorem dX7_gives_76 : decode cX7_gives 76 = .ok (.iload_n 1, 1) := by decide +kernel
theorem dX7_gives_77 : decode cX7_gives 77 = .ok (.aaload, 1) := by decide +kernel
theorem dX7_gives_78 : decode cX7_gives 78 = .ok (.iload_n 2, 1) := by decide +kernel
theorem dX7_gives_79 : decode cX7_gives 79 = .ok (.iaload, 1) := by decide +kernel
theorem dX7_gives_80 : decode cX7_gives 80 = .ok (.istore 4, 2) := by decide +kernel
theorem dX7_gives_82 : decode cX7_gives 82 = .ok (.iload 4, 2) := by decide +kernel
theorem dX7_gives_84 : decode cX7_gives 84 = .ok (.aload_n 0, 1) := by decide +kernel
theorem dX7_gives_85 : decode cX7_gives 85 = .ok (.aload_n 3, 1) := by decide +kernel
theorem dX7_gives_86 : decode cX7_gives 86 = .ok (.invokevirtual 149, 3) := by decide +kernel
theorem dX7_gives_89 : decode cX7_gives 89 = .ok (.if_icmp .ge 45, 3) := by decide +kernel
theorem dX7_gives_92 : decode cX7_gives 92 = .ok (.aload_n 3, 1) := by decide +kernel
theorem dX7_gives_93 : decode cX7_gives 93 = .ok (.iload 4, 2) := by decide +kernel
theorem dX7_gives_95 : decode cX7_gives 95 = .ok (.aaload, 1) := by decide +kernel
theorem dX7_gives_96 : decode cX7_gives 96 = .ok (.iconst 5, 1) := by decide +kernel
theorem dX7_gives_97 : decode cX7_gives 97 = .ok (.iconst 3, 1) := by decide +kernel
theorem dX7_gives_98 : decode cX7_gives 98 = .ok (.iload_n 1, 1) := by decide +kernel
theorem dX7_gives_99 : decode cX7_gives 99 = .ok (.imul, 1) := by decide +kernel
theorem dX7_gives_100 : decode cX7_gives 100 = .ok (.iadd, 1) := by decide +kernel
theorem dX7_gives_101 : decode cX7_gives 101 = .ok (.iaload, 1) := by decide +kernel
theorem dX7_gives_102 : decode cX7_gives 102 = .ok (.ifCond .ne 26, 3) := by decide +kernel
theorem dX7_gives_105 : decode cX7_gives 105 = .ok (.aload_n 0, 1) := by decide +kernel
theorem dX7_gives_106 : decode cX7_gives 106 = .ok (.aload_n 3, 1) := by decide +kernel
theorem dX7_gives_107 : decode cX7_gives 107 = .ok (.iload 4, 2) := by decide +kernel
theorem dX7_gives_109 : decode cX7_gives 109 = .ok (.aaload, 1) := by decide +kernel
theorem dX7_gives_110 : decode cX7_gives 110 = .ok (.invokevirtual 101, 3) := by decide +kernel
theorem dX7_gives_113 : decode cX7_gives 113 = .ok (.ifCond .ne 15, 3) := by decide +kernel
theorem dX7_gives_116 : decode cX7_gives 116 = .ok (.aload_n 3, 1) := by decide +kernel
theorem dX7_gives_117 : decode cX7_gives 117 = .ok (.iload 4, 2) := by decide +kernel
theorem dX7_gives_119 : decode cX7_gives 119 = .ok (.aaload, 1) := by decide +kernel
theorem dX7_gives_120 : decode cX7_gives 120 = .ok (.iconst 4, 1) := by decide +kernel
theorem dX7_gives_121 : decode cX7_gives 121 = .ok (.iaload, 1) := by decide +kernel
theorem dX7_gives_122 : decode cX7_gives 122 = .ok (.ifCond .ne 6, 3) := by decide +kernel
theorem dX7_gives_125 : decode cX7_gives 125 = .ok (.iload 4, 2) := by decide +kernel
theorem dX7_gives_127 : decode cX7_gives 127 = .ok (.ireturn, 1) := by decide +kernel
theorem dX7_gives_128 : decode cX7_gives 128 = .ok (.iinc 4 1, 3) := by decide +kernel
theorem dX7_gives_131 : decode cX7_gives 131 = .ok (.goto (-49), 3) := by decide +kernel
theorem dX7_gives_134 : decode cX7_gives 134 = .ok (.iconst (-1), 1) := by decide +kernel
theorem dX7_gives_135 : decode cX7_gives 135 = .ok (.ireturn, 1) := by decide +kernel
theorem dX7_would_0 : decode cX7_would 0 = .ok (.iconst 0, 1) := by decide +kernel
theorem dX7_would_1 : decode cX7_would 1 = .ok (.istore_n 3, 1) := by decide +kernel
theorem dX7_would_2 : decode cX7_would 2 = .ok (.iload_n 3, 1) := by decide +kernel
theorem dX7_would_3 : decode cX7_would 3 = .ok (.aload_n 0, 1) := by decide +kernel
theorem dX7_would_4 : decode cX7_would 4 = .ok (.getfield 25, 3) := by decide +kernel
theorem dX7_would_7 : decode cX7_would 7 = .ok (.aload_n 0, 1) := by decide +kernel
theorem dX7_would_8 : decode cX7_would 8 = .ok (.getfield 51, 3) := by decide +kernel
theorem dX7_would_11 : decode cX7_would 11 = .ok (.iload_n 1, 1) := by decide +kernel
theorem dX7_would_12 : decode cX7_would 12 = .ok (.iaload, 1) := by decide +kernel
theorem dX7_would_13 : decode cX7_would 13 = .ok (.aaload, 1) := by decide +kernel
theorem dX7_would_14 : decode cX7_would 14 = .ok (.arraylength, 1) := by decide +kernel
theorem dX7_would_15 : decode cX7_would 15 = .ok (.if_icmp .ge 53, 3) := by decide +kernel
theorem dX7_would_18 : decode cX7_would 18 = .ok (.aload_n 0, 1) := by decide +kernel
theorem dX7_would_19 : decode cX7_would 19 = .ok (.getfield 65, 3) := by decide +kernel
theorem dX7_would_22 : decode cX7_would 22 = .ok (.iload_n 1, 1) := by decide +kernel
theorem dX7_would_23 : decode cX7_would 23 = .ok (.aaload, 1) := by decide +kernel
theorem dX7_would_24 : decode cX7_would 24 = .ok (.iload_n 2, 1) := by decide +kernel
theorem dX7_would_25 : decode cX7_would 25 = .ok (.baload, 1) := by decide +kernel
theorem dX7_would_26 : decode cX7_would 26 = .ok (.ifCond .eq 42, 3) := by decide +kernel
theorem dX7_would_29 : decode cX7_would 29 = .ok (.aload_n 0, 1) := by decide +kernel
theorem dX7_would_30 : decode cX7_would 30 = .ok (.getfield 60, 3) := by decide +kernel
theorem dX7_would_33 : decode cX7_would 33 = .ok (.iload_n 1, 1) := by decide +kernel
theorem dX7_would_34 : decode cX7_would 34 = .ok (.aaload, 1) := by decide +kernel
theorem dX7_would_35 : decode cX7_would 35 = .ok (.iload_n 3, 1) := by decide +kernel
theorem dX7_would_36 : decode cX7_would 36 = .ok (.iaload, 1) := by decide +kernel
theorem dX7_would_37 : decode cX7_would 37 = .ok (.iload_n 2, 1) := by decide +kernel
theorem dX7_would_38 : decode cX7_would 38 = .ok (.if_icmp .ne 24, 3) := by decide +kernel
theorem dX7_would_41 : decode cX7_would 41 = .ok (.aload_n 0, 1) := by decide +kernel
theorem dX7_would_42 : decode cX7_would 42 = .ok (.iload_n 1, 1) := by decide +kernel
theorem dX7_would_43 : decode cX7_would 43 = .ok (.iload_n 3, 1) := by decide +kernel
theorem dX7_would_44 : decode cX7_would 44 = .ok (.invokevirtual 196, 3) := by decide +kernel
theorem dX7_would_47 : decode cX7_would 47 = .ok (.ifCond .lt 15, 3) := by decide +kernel
theorem dX7_would_50 : decode cX7_would 50 = .ok (.bipush 100, 2) := by decide +kernel
theorem dX7_would_52 : decode cX7_would 52 = .ok (.iload_n 3, 1) := by decide +kernel
theorem dX7_would_53 : decode cX7_would 53 = .ok (.imul, 1) := by decide +kernel
theorem dX7_would_54 : decode cX7_would 54 = .ok (.aload_n 0, 1) := by decide +kernel
theorem dX7_would_55 : decode cX7_would 55 = .ok (.iload_n 1, 1) := by decide +kernel
theorem dX7_would_56 : decode cX7_would 56 = .ok (.iload_n 3, 1) := by decide +kernel
theorem dX7_would_57 : decode cX7_would 57 = .ok (.invokevirtual 196, 3) := by decide +kernel
theorem dX7_would_60 : decode cX7_would 60 = .ok (.iadd, 1) := by decide +kernel
theorem dX7_would_61 : decode cX7_would 61 = .ok (.ireturn, 1) := by decide +kernel
theorem dX7_would_62 : decode cX7_would 62 = .ok (.iinc 3 1, 3) := by decide +kernel
theorem dX7_would_65 : decode cX7_would 65 = .ok (.goto (-63), 3) := by decide +kernel
theorem dX7_would_68 : decode cX7_would 68 = .ok (.iconst (-1), 1) := by decide +kernel
theorem dX7_would_69 : decode cX7_would 69 = .ok (.ireturn, 1) := by decide +kernel
theorem dX7_take_0 : decode cX7_take 0 = .ok (.aload_n 0, 1) := by decide +kernel
theorem dX7_take_1 : decode cX7_take 1 = .ok (.aload_n 0, 1) := by decide +kernel
theorem dX7_take_2 : decode cX7_take 2 = .ok (.getfield 105, 3) := by decide +kernel
theorem dX7_take_5 : decode cX7_take 5 = .ok (.invokevirtual 94, 3) := by decide +kernel
theorem dX7_take_8 : decode cX7_take 8 = .ok (.istore_n 1, 1) := by decide +kernel
theorem dX7_take_9 : decode cX7_take 9 = .ok (.aload_n 0, 1) := by decide +kernel
theorem dX7_take_10 : decode cX7_take 10 = .ok (.iconst 4, 1) := by decide +kernel
theorem dX7_take_11 : decode cX7_take 11 = .ok (.invokevirtual 94, 3) := by decide +kernel
theorem dX7_take_14 : decode cX7_take 14 = .ok (.istore_n 2, 1) := by decide +kernel
theorem dX7_take_15 : decode cX7_take 15 = .ok (.aload_n 0, 1) := by decide +kernel
theorem dX7_take_16 : decode cX7_take 16 = .ok (.getfield 65, 3) := by decide +kernel
theorem dX7_take_19 : decode cX7_take 19 = .ok (.iload_n 1, 1) := by decide +kernel
theorem dX7_take_20 : decode cX7_take 20 = .ok (.aaload, 1) := by decide +kernel
theorem dX7_take_21 : decode cX7_take 21 = .ok (.iload_n 2, 1) := by decide +kernel
theorem dX7_take_22 : decode cX7_take 22 = .ok (.baload, 1) := by decide +kernel
theorem dX7_take_23 : decode cX7_take 23 = .ok (.ifCond .ne 22, 3) := by decide +kernel
theorem dX7_take_26 : decode cX7_take 26 = .ok (.aload_n 0, 1) := by decide +kernel
theorem dX7_take_27 : decode cX7_take 27 = .ok (.getfield 10, 3) := by decide +kernel
theorem dX7_take_30 : decode cX7_take 30 = .ok (.iload_n 1, 1) := by decide +kernel
theorem dX7_take_31 : decode cX7_take 31 = .ok (.iload_n 2, 1) := by decide +kernel
theorem dX7_take_32 : decode cX7_take 32 = .ok (.invokevirtual 199, 3) := by decide +kernel
theorem dX7_take_35 : decode cX7_take 35 = .ok (.iconst (-1), 1) := by decide +kernel
theorem dX7_take_36 : decode cX7_take 36 = .ok (.if_icmp .ne 7, 3) := by decide +kernel
theorem dX7_take_39 : decode cX7_take 39 = .ok (.iconst 1, 1) := by decide +kernel
theorem dX7_take_40 : decode cX7_take 40 = .ok (.goto 4, 3) := by decide +kernel
theorem dX7_take_43 : decode cX7_take 43 = .ok (.iconst 0, 1) := by decide +kernel
theorem dX7_take_44 : decode cX7_take 44 = .ok (.ireturn, 1) := by decide +kernel
theorem dX7_take_45 : decode cX7_take 45 = .ok (.aload_n 0, 1) := by decide +kernel
theorem dX7_take_46 : decode cX7_take 46 = .ok (.iload_n 1, 1) := by decide +kernel
theorem dX7_take_47 : decode cX7_take 47 = .ok (.iload_n 2, 1) := by decide +kernel
theorem dX7_take_48 : decode cX7_take 48 = .ok (.invokevirtual 202, 3) := by decide +kernel
theorem dX7_take_51 : decode cX7_take 51 = .ok (.istore_n 3, 1) := by decide +kernel
theorem dX7_take_52 : decode cX7_take 52 = .ok (.iload_n 3, 1) := by decide +kernel
theorem dX7_take_53 : decode cX7_take 53 = .ok (.ifCond .lt 107, 3) := by decide +kernel
theorem dX7_take_56 : decode cX7_take 56 = .ok (.aload_n 0, 1) := by decide +kernel
theorem dX7_take_57 : decode cX7_take 57 = .ok (.getfield 25, 3) := by decide +kernel
theorem dX7_take_60 : decode cX7_take 60 = .ok (.aload_n 0, 1) := by decide +kernel
theorem dX7_take_61 : decode cX7_take 61 = .ok (.getfield 51, 3) := by decide +kernel
theorem dX7_take_64 : decode cX7_take 64 = .ok (.iload_n 1, 1) := by decide +kernel
theorem dX7_take_65 : decode cX7_take 65 = .ok (.iaload, 1) := by decide +kernel
theorem dX7_take_66 : decode cX7_take 66 = .ok (.aaload, 1) := by decide +kernel
theorem dX7_take_67 : decode cX7_take 67 = .ok (.iload_n 3, 1) := by decide +kernel
theorem dX7_take_68 : decode cX7_take 68 = .ok (.bipush 100, 2) := by decide +kernel
theorem dX7_take_70 : decode cX7_take 70 = .ok (.idiv, 1) := by decide +kernel
theorem dX7_take_71 : decode cX7_take 71 = .ok (.aaload, 1) := by decide +kernel
theorem dX7_take_72 : decode cX7_take 72 = .ok (.iload_n 3, 1) := by decide +kernel
theorem dX7_take_73 : decode cX7_take 73 = .ok (.bipush 100, 2) := by decide +kernel
theorem dX7_take_75 : decode cX7_take 75 = .ok (.irem, 1) := by decide +kernel
theorem dX7_take_76 : decode cX7_take 76 = .ok (.aaload, 1) := by decide +kernel
theorem dX7_take_77 : decode cX7_take 77 = .ok (.astore 4, 2) := by decide +kernel
theorem dX7_take_79 : decode cX7_take 79 = .ok (.aload 4, 2) := by decide +kernel
theorem dX7_take_81 : decode cX7_take 81 = .ok (.iconst 5, 1) := by decide +kernel
theorem dX7_take_82 : decode cX7_take 82 = .ok (.iconst 3, 1) := by decide +kernel
theorem dX7_take_83 : decode cX7_take 83 = .ok (.iload_n 1, 1) := by decide +kernel
theorem dX7_take_84 : decode cX7_take 84 = .ok (.imul, 1) := by decide +kernel
theorem dX7_take_85 : decode cX7_take 85 = .ok (.iadd, 1) := by decide +kernel
theorem dX7_take_86 : decode cX7_take 86 = .ok (.iaload, 1) := by decide +kernel
theorem dX7_take_87 : decode cX7_take 87 = .ok (.ifCond .ne 20, 3) := by decide +kernel
theorem dX7_take_90 : decode cX7_take 90 = .ok (.aload_n 0, 1) := by decide +kernel
theorem dX7_take_91 : decode cX7_take 91 = .ok (.getfield 57, 3) := by decide +kernel
theorem dX7_take_94 : decode cX7_take 94 = .ok (.iload_n 1, 1) := by decide +kernel
theorem dX7_take_95 : decode cX7_take 95 = .ok (.aaload, 1) := by decide +kernel
theorem dX7_take_96 : decode cX7_take 96 = .ok (.iload_n 3, 1) := by decide +kernel
theorem dX7_take_97 : decode cX7_take 97 = .ok (.bipush 100, 2) := by decide +kernel
theorem dX7_take_99 : decode cX7_take 99 = .ok (.idiv, 1) := by decide +kernel
theorem dX7_take_100 : decode cX7_take 100 = .ok (.iload_n 3, 1) := by decide +kernel
theorem dX7_take_101 : decode cX7_take 101 = .ok (.bipush 100, 2) := by decide +kernel
theorem dX7_take_103 : decode cX7_take 103 = .ok (.irem, 1) := by decide +kernel
theorem dX7_take_104 : decode cX7_take 104 = .ok (.iconst 1, 1) := by decide +kernel
theorem dX7_take_105 : decode cX7_take 105 = .ok (.iadd, 1) := by decide +kernel
theorem dX7_take_106 : decode cX7_take 106 = .ok (.iastore, 1) := by decide +kernel
theorem dX7_take_107 : decode cX7_take 107 = .ok (.aload 4, 2) := by decide +kernel
theorem dX7_take_109 : decode cX7_take 109 = .ok (.iconst 5, 1) := by decide +kernel
theorem dX7_take_110 : decode cX7_take 110 = .ok (.iconst 3, 1) := by decide +kernel
theorem dX7_take_111 : decode cX7_take 111 = .ok (.iload_n 1, 1) := by decide +kernel
theorem dX7_take_112 : decode cX7_take 112 = .ok (.imul, 1) := by decide +kernel
theorem dX7_take_113 : decode cX7_take 113 = .ok (.iadd, 1) := by decide +kernel
theorem dX7_take_114 : decode cX7_take 114 = .ok (.iconst 1, 1) := by decide +kernel
theorem dX7_take_115 : decode cX7_take 115 = .ok (.iastore, 1) := by decide +kernel
theorem dX7_take_116 : decode cX7_take 116 = .ok (.aload 4, 2) := by decide +kernel
theorem dX7_take_118 : decode cX7_take 118 = .ok (.bipush 6, 2) := by decide +kernel
theorem dX7_take_120 : decode cX7_take 120 = .ok (.iconst 3, 1) := by decide +kernel
theorem dX7_take_121 : decode cX7_take 121 = .ok (.iload_n 1, 1) := by decide +kernel
theorem dX7_take_122 : decode cX7_take 122 = .ok (.imul, 1) := by decide +kernel
theorem dX7_take_123 : decode cX7_take 123 = .ok (.iadd, 1) := by decide +kernel
theorem dX7_take_124 : decode cX7_take 124 = .ok (.dup2, 1) := by decide +kernel
theorem dX7_take_125 : decode cX7_take 125 = .ok (.iaload, 1) := by decide +kernel
theorem dX7_take_126 : decode cX7_take 126 = .ok (.iconst 1, 1) := by decide +kernel
theorem dX7_take_127 : decode cX7_take 127 = .ok (.iadd, 1) := by decide +kernel
theorem dX7_take_128 : decode cX7_take 128 = .ok (.iastore, 1) := by decide +kernel
theorem dX7_take_129 : decode cX7_take 129 = .ok (.aload 4, 2) := by decide +kernel
theorem dX7_take_131 : decode cX7_take 131 = .ok (.bipush 7, 2) := by decide +kernel
theorem dX7_take_133 : decode cX7_take 133 = .ok (.iconst 3, 1) := by decide +kernel
theorem dX7_take_134 : decode cX7_take 134 = .ok (.iload_n 1, 1) := by decide +kernel
theorem dX7_take_135 : decode cX7_take 135 = .ok (.imul, 1) := by decide +kernel
theorem dX7_take_136 : decode cX7_take 136 = .ok (.iadd, 1) := by decide +kernel
theorem dX7_take_137 : decode cX7_take 137 = .ok (.aload_n 0, 1) := by decide +kernel
theorem dX7_take_138 : decode cX7_take 138 = .ok (.getfield 119, 3) := by decide +kernel
theorem dX7_take_141 : decode cX7_take 141 = .ok (.iastore, 1) := by decide +kernel
theorem dX7_take_142 : decode cX7_take 142 = .ok (.aload_n 0, 1) := by decide +kernel
theorem dX7_take_143 : decode cX7_take 143 = .ok (.iconst 0, 1) := by decide +kernel
theorem dX7_take_144 : decode cX7_take 144 = .ok (.iload_n 1, 1) := by decide +kernel
theorem dX7_take_145 : decode cX7_take 145 = .ok (.iload_n 3, 1) := by decide +kernel
theorem dX7_take_146 : decode cX7_take 146 = .ok (.bipush 100, 2) := by decide +kernel
theorem dX7_take_148 : decode cX7_take 148 = .ok (.idiv, 1) := by decide +kernel
theorem dX7_take_149 : decode cX7_take 149 = .ok (.iload_n 3, 1) := by decide +kernel
theorem dX7_take_150 : decode cX7_take 150 = .ok (.bipush 100, 2) := by decide +kernel
theorem dX7_take_152 : decode cX7_take 152 = .ok (.irem, 1) := by decide +kernel
theorem dX7_take_153 : decode cX7_take 153 = .ok (.invokevirtual 168, 3) := by decide +kernel
theorem dX7_take_156 : decode cX7_take 156 = .ok (.aload_n 0, 1) := by decide +kernel
theorem dX7_take_157 : decode cX7_take 157 = .ok (.invokevirtual 126, 3) := by decide +kernel
theorem dX7_take_160 : decode cX7_take 160 = .ok (.aload_n 0, 1) := by decide +kernel
theorem dX7_take_161 : decode cX7_take 161 = .ok (.getfield 10, 3) := by decide +kernel
theorem dX7_take_164 : decode cX7_take 164 = .ok (.iload_n 1, 1) := by decide +kernel
theorem dX7_take_165 : decode cX7_take 165 = .ok (.iload_n 2, 1) := by decide +kernel
theorem dX7_take_166 : decode cX7_take 166 = .ok (.invokevirtual 199, 3) := by decide +kernel
theorem dX7_take_169 : decode cX7_take 169 = .ok (.iload_n 3, 1) := by decide +kernel
theorem dX7_take_170 : decode cX7_take 170 = .ok (.if_icmp .ne 20, 3) := by decide +kernel
theorem dX7_take_173 : decode cX7_take 173 = .ok (.aload_n 0, 1) := by decide +kernel
theorem dX7_take_174 : decode cX7_take 174 = .ok (.getfield 10, 3) := by decide +kernel
theorem dX7_take_177 : decode cX7_take 177 = .ok (.iload_n 1, 1) := by decide +kernel
theorem dX7_take_178 : decode cX7_take 178 = .ok (.iload_n 2, 1) := by decide +kernel
theorem dX7_take_179 : decode cX7_take 179 = .ok (.invokevirtual 205, 3) := by decide +kernel
theorem dX7_take_182 : decode cX7_take 182 = .ok (.iload_n 3, 1) := by decide +kernel
theorem dX7_take_183 : decode cX7_take 183 = .ok (.if_icmp .ne 7, 3) := by decide +kernel
theorem dX7_take_186 : decode cX7_take 186 = .ok (.iconst 1, 1) := by decide +kernel
theorem dX7_take_187 : decode cX7_take 187 = .ok (.goto 4, 3) := by decide +kernel
theorem dX7_take_190 : decode cX7_take 190 = .ok (.iconst 0, 1) := by decide +kernel
theorem dX7_take_191 : decode cX7_take 191 = .ok (.ireturn, 1) := by decide +kernel
theorem dX7_answer_0 : decode cX7_answer 0 = .ok (.aload_n 0, 1) := by decide +kernel
theorem dX7_answer_1 : decode cX7_answer 1 = .ok (.aload_n 0, 1) := by decide +kernel
theorem dX7_answer_2 : decode cX7_answer 2 = .ok (.getfield 105, 3) := by decide +kernel
theorem dX7_answer_5 : decode cX7_answer 5 = .ok (.invokevirtual 94, 3) := by decide +kernel
theorem dX7_answer_8 : decode cX7_answer 8 = .ok (.istore_n 1, 1) := by decide +kernel
theorem dX7_answer_9 : decode cX7_answer 9 = .ok (.aload_n 0, 1) := by decide +kernel
theorem dX7_answer_10 : decode cX7_answer 10 = .ok (.aload_n 0, 1) := by decide +kernel
theorem dX7_answer_11 : decode cX7_answer 11 = .ok (.getfield 25, 3) := by decide +kernel
theorem dX7_answer_14 : decode cX7_answer 14 = .ok (.aload_n 0, 1) := by decide +kernel
theorem dX7_answer_15 : decode cX7_answer 15 = .ok (.getfield 51, 3) := by decide +kernel
theorem dX7_answer_18 : decode cX7_answer 18 = .ok (.iload_n 1, 1) := by decide +kernel
theorem dX7_answer_19 : decode cX7_answer 19 = .ok (.iaload, 1) := by decide +kernel
theorem dX7_answer_20 : decode cX7_answer 20 = .ok (.aaload, 1) := by decide +kernel
theorem dX7_answer_21 : decode cX7_answer 21 = .ok (.arraylength, 1) := by decide +kernel
theorem dX7_answer_22 : decode cX7_answer 22 = .ok (.invokevirtual 94, 3) := by decide +kernel
theorem dX7_answer_25 : decode cX7_answer 25 = .ok (.istore_n 2, 1) := by decide +kernel
theorem dX7_answer_26 : decode cX7_answer 26 = .ok (.aload_n 0, 1) := by decide +kernel
theorem dX7_answer_27 : decode cX7_answer 27 = .ok (.iconst 3, 1) := by decide +kernel
theorem dX7_answer_28 : decode cX7_answer 28 = .ok (.invokevirtual 94, 3) := by decide +kernel
theorem dX7_answer_31 : decode cX7_answer 31 = .ok (.ifCond .le 7, 3) := by decide +kernel
theorem dX7_answer_34 : decode cX7_answer 34 = .ok (.iconst 1, 1) := by decide +kernel
theorem dX7_answer_35 : decode cX7_answer 35 = .ok (.goto 4, 3) := by decide +kernel
theorem dX7_answer_38 : decode cX7_answer 38 = .ok (.iconst 0, 1) := by decide +kernel
theorem dX7_answer_39 : decode cX7_answer 39 = .ok (.istore_n 3, 1) := by decide +kernel
theorem dX7_answer_40 : decode cX7_answer 40 = .ok (.iconst 0, 1) := by decide +kernel
theorem dX7_answer_41 : decode cX7_answer 41 = .ok (.istore 4, 2) := by decide +kernel
theorem dX7_answer_43 : decode cX7_answer 43 = .ok (.iload 4, 2) := by decide +kernel
theorem dX7_answer_45 : decode cX7_answer 45 = .ok (.aload_n 0, 1) := by decide +kernel
theorem dX7_answer_46 : decode cX7_answer 46 = .ok (.getfield 25, 3) := by decide +kernel
theorem dX7_answer_49 : decode cX7_answer 49 = .ok (.aload_n 0, 1) := by decide +kernel
theorem dX7_answer_50 : decode cX7_answer 50 = .ok (.getfield 51, 3) := by decide +kernel
theorem dX7_answer_53 : decode cX7_answer 53 = .ok (.iload_n 1, 1) := by decide +kernel
theorem dX7_answer_54 : decode cX7_answer 54 = .ok (.iaload, 1) := by decide +kernel
theorem dX7_answer_55 : decode cX7_answer 55 = .ok (.aaload, 1) := by decide +kernel
theorem dX7_answer_56 : decode cX7_answer 56 = .ok (.arraylength, 1) := by decide +kernel
theorem dX7_answer_57 : decode cX7_answer 57 = .ok (.if_icmp .ge 194, 3) := by decide +kernel
theorem dX7_answer_60 : decode cX7_answer 60 = .ok (.iload_n 2, 1) := by decide +kernel
theorem dX7_answer_61 : decode cX7_answer 61 = .ok (.iload 4, 2) := by decide +kernel
theorem dX7_answer_63 : decode cX7_answer 63 = .ok (.iadd, 1) := by decide +kernel
theorem dX7_answer_64 : decode cX7_answer 64 = .ok (.aload_n 0, 1) := by decide +kernel
theorem dX7_answer_65 : decode cX7_answer 65 = .ok (.getfield 25, 3) := by decide +kernel
theorem dX7_answer_68 : decode cX7_answer 68 = .ok (.aload_n 0, 1) := by decide +kernel
theorem dX7_answer_69 : decode cX7_answer 69 = .ok (.getfield 51, 3) := by decide +kernel
theorem dX7_answer_72 : decode cX7_answer 72 = .ok (.iload_n 1, 1) := by decide +kernel
theorem dX7_answer_73 : decode cX7_answer 73 = .ok (.iaload, 1) := by decide +kernel
theorem dX7_answer_74 : decode cX7_answer 74 = .ok (.aaload, 1) := by decide +kernel
theorem dX7_answer_75 : decode cX7_answer 75 = .ok (.arraylength, 1) := by decide +kernel
theorem dX7_answer_76 : decode cX7_answer 76 = .ok (.irem, 1) := by decide +kernel
theorem dX7_answer_77 : decode cX7_answer 77 = .ok (.istore 5, 2) := by decide +kernel
theorem dX7_answer_79 : decode cX7_answer 79 = .ok (.iconst 0, 1) := by decide +kernel
theorem dX7_answer_80 : decode cX7_answer 80 = .ok (.istore 6, 2) := by decide +kernel
theorem dX7_answer_82 : decode cX7_answer 82 = .ok (.iload 6, 2) := by decide +kernel
theorem dX7_answer_84 : decode cX7_answer 84 = .ok (.aload_n 0, 1) := by decide +kernel
theorem dX7_answer_85 : decode cX7_answer 85 = .ok (.getfield 25, 3) := by decide +kernel
theorem dX7_answer_88 : decode cX7_answer 88 = .ok (.aload_n 0, 1) := by decide +kernel
theorem dX7_answer_89 : decode cX7_answer 89 = .ok (.getfield 51, 3) := by decide +kernel
theorem dX7_answer_92 : decode cX7_answer 92 = .ok (.iload_n 1, 1) := by decide +kernel
theorem dX7_answer_93 : decode cX7_answer 93 = .ok (.iaload, 1) := by decide +kernel
theorem dX7_answer_94 : decode cX7_answer 94 = .ok (.aaload, 1) := by decide +kernel
theorem dX7_answer_95 : decode cX7_answer 95 = .ok (.iload 5, 2) := by decide +kernel
theorem dX7_answer_97 : decode cX7_answer 97 = .ok (.aaload, 1) := by decide +kernel
theorem dX7_answer_98 : decode cX7_answer 98 = .ok (.arraylength, 1) := by decide +kernel
theorem dX7_answer_99 : decode cX7_answer 99 = .ok (.if_icmp .ge 146, 3) := by decide +kernel
theorem dX7_answer_102 : decode cX7_answer 102 = .ok (.aload_n 0, 1) := by decide +kernel
theorem dX7_answer_103 : decode cX7_answer 103 = .ok (.getfield 25, 3) := by decide +kernel
theorem dX7_answer_106 : decode cX7_answer 106 = .ok (.aload_n 0, 1) := by decide +kernel
theorem dX7_answer_107 : decode cX7_answer 107 = .ok (.getfield 51, 3) := by decide +kernel
theorem dX7_answer_110 : decode cX7_answer 110 = .ok (.iload_n 1, 1) := by decide +kernel
theorem dX7_answer_111 : decode cX7_answer 111 = .ok (.iaload, 1) := by decide +kernel
theorem dX7_answer_112 : decode cX7_answer 112 = .ok (.aaload, 1) := by decide +kernel
theorem dX7_answer_113 : decode cX7_answer 113 = .ok (.iload 5, 2) := by decide +kernel
theorem dX7_answer_115 : decode cX7_answer 115 = .ok (.aaload, 1) := by decide +kernel
theorem dX7_answer_116 : decode cX7_answer 116 = .ok (.iload 6, 2) := by decide +kernel
theorem dX7_answer_118 : decode cX7_answer 118 = .ok (.aaload, 1) := by decide +kernel
theorem dX7_answer_119 : decode cX7_answer 119 = .ok (.astore 7, 2) := by decide +kernel
theorem dX7_answer_121 : decode cX7_answer 121 = .ok (.aload 7, 2) := by decide +kernel
theorem dX7_answer_123 : decode cX7_answer 123 = .ok (.iconst 5, 1) := by decide +kernel
theorem dX7_answer_124 : decode cX7_answer 124 = .ok (.iconst 3, 1) := by decide +kernel
theorem dX7_answer_125 : decode cX7_answer 125 = .ok (.iload_n 1, 1) := by decide +kernel
theorem dX7_answer_126 : decode cX7_answer 126 = .ok (.imul, 1) := by decide +kernel
theorem dX7_answer_127 : decode cX7_answer 127 = .ok (.iadd, 1) := by decide +kernel
theorem dX7_answer_128 : decode cX7_answer 128 = .ok (.iaload, 1) := by decide +kernel
theorem dX7_answer_129 : decode cX7_answer 129 = .ok (.iconst 1, 1) := by decide +kernel
theorem dX7_answer_130 : decode cX7_answer 130 = .ok (.if_icmp .ne 109, 3) := by decide +kernel
theorem dX7_answer_133 : decode cX7_answer 133 = .ok (.aload_n 0, 1) := by decide +kernel
theorem dX7_answer_134 : decode cX7_answer 134 = .ok (.iconst 3, 1) := by decide +kernel
theorem dX7_answer_135 : decode cX7_answer 135 = .ok (.invokevirtual 94, 3) := by decide +kernel
theorem dX7_answer_138 : decode cX7_answer 138 = .ok (.ifCond .ne 6, 3) := by decide +kernel
theorem dX7_answer_141 : decode cX7_answer 141 = .ok (.goto 98, 3) := by decide +kernel
theorem dX7_answer_144 : decode cX7_answer 144 = .ok (.iload_n 3, 1) := by decide +kernel
theorem dX7_answer_145 : decode cX7_answer 145 = .ok (.ifCond .ne 41, 3) := by decide +kernel
theorem dX7_answer_148 : decode cX7_answer 148 = .ok (.aload_n 0, 1) := by decide +kernel
theorem dX7_answer_149 : decode cX7_answer 149 = .ok (.iload_n 1, 1) := by decide +kernel
theorem dX7_answer_150 : decode cX7_answer 150 = .ok (.iload 5, 2) := by decide +kernel
theorem dX7_answer_152 : decode cX7_answer 152 = .ok (.iload 6, 2) := by decide +kernel
theorem dX7_answer_154 : decode cX7_answer 154 = .ok (.invokevirtual 172, 3) := by decide +kernel
theorem dX7_answer_157 : decode cX7_answer 157 = .ok (.istore 8, 2) := by decide +kernel
theorem dX7_answer_159 : decode cX7_answer 159 = .ok (.aload_n 0, 1) := by decide +kernel
theorem dX7_answer_160 : decode cX7_answer 160 = .ok (.invokevirtual 126, 3) := by decide +kernel
theorem dX7_answer_163 : decode cX7_answer 163 = .ok (.aload_n 0, 1) := by decide +kernel
theorem dX7_answer_164 : decode cX7_answer 164 = .ok (.getfield 10, 3) := by decide +kernel
theorem dX7_answer_167 : decode cX7_answer 167 = .ok (.iload_n 1, 1) := by decide +kernel
theorem dX7_answer_168 : decode cX7_answer 168 = .ok (.iload 5, 2) := by decide +kernel
theorem dX7_answer_170 : decode cX7_answer 170 = .ok (.iload 6, 2) := by decide +kernel
theorem dX7_answer_172 : decode cX7_answer 172 = .ok (.invokevirtual 208, 3) := by decide +kernel
theorem dX7_answer_175 : decode cX7_answer 175 = .ok (.iload 8, 2) := by decide +kernel
theorem dX7_answer_177 : decode cX7_answer 177 = .ok (.if_icmp .ne 7, 3) := by decide +kernel
theorem dX7_answer_180 : decode cX7_answer 180 = .ok (.iconst 1, 1) := by decide +kernel
theorem dX7_answer_181 : decode cX7_answer 181 = .ok (.goto 4, 3) := by decide +kernel
theorem dX7_answer_184 : decode cX7_answer 184 = .ok (.iconst 0, 1) := by decide +kernel
theorem dX7_answer_185 : decode cX7_answer 185 = .ok (.ireturn, 1) := by decide +kernel
theorem dX7_answer_186 : decode cX7_answer 186 = .ok (.aload 7, 2) := by decide +kernel
theorem dX7_answer_188 : decode cX7_answer 188 = .ok (.iconst 5, 1) := by decide +kernel
theorem dX7_answer_189 : decode cX7_answer 189 = .ok (.iconst 3, 1) := by decide +kernel
theorem dX7_answer_190 : decode cX7_answer 190 = .ok (.iload_n 1, 1) := by decide +kernel
theorem dX7_answer_191 : decode cX7_answer 191 = .ok (.imul, 1) := by decide +kernel
theorem dX7_answer_192 : decode cX7_answer 192 = .ok (.iadd, 1) := by decide +kernel
theorem dX7_answer_193 : decode cX7_answer 193 = .ok (.iconst 3, 1) := by decide +kernel
theorem dX7_answer_194 : decode cX7_answer 194 = .ok (.iastore, 1) := by decide +kernel
theorem dX7_answer_195 : decode cX7_answer 195 = .ok (.aload_n 0, 1) := by decide +kernel
theorem dX7_answer_196 : decode cX7_answer 196 = .ok (.iconst 1, 1) := by decide +kernel
theorem dX7_answer_197 : decode cX7_answer 197 = .ok (.iload_n 1, 1) := by decide +kernel
theorem dX7_answer_198 : decode cX7_answer 198 = .ok (.iload 5, 2) := by decide +kernel
theorem dX7_answer_200 : decode cX7_answer 200 = .ok (.iload 6, 2) := by decide +kernel
theorem dX7_answer_202 : decode cX7_answer 202 = .ok (.invokevirtual 168, 3) := by decide +kernel
theorem dX7_answer_205 : decode cX7_answer 205 = .ok (.aload_n 0, 1) := by decide +kernel
theorem dX7_answer_206 : decode cX7_answer 206 = .ok (.invokevirtual 126, 3) := by decide +kernel
theorem dX7_answer_209 : decode cX7_answer 209 = .ok (.aload_n 0, 1) := by decide +kernel
theorem dX7_answer_210 : decode cX7_answer 210 = .ok (.getfield 10, 3) := by decide +kernel
theorem dX7_answer_213 : decode cX7_answer 213 = .ok (.iload_n 1, 1) := by decide +kernel
theorem dX7_answer_214 : decode cX7_answer 214 = .ok (.iload 5, 2) := by decide +kernel
theorem dX7_answer_216 : decode cX7_answer 216 = .ok (.iload 6, 2) := by decide +kernel
theorem dX7_answer_218 : decode cX7_answer 218 = .ok (.invokevirtual 209, 3) := by decide +kernel
theorem dX7_answer_221 : decode cX7_answer 221 = .ok (.aload_n 0, 1) := by decide +kernel
theorem dX7_answer_222 : decode cX7_answer 222 = .ok (.getfield 54, 3) := by decide +kernel
theorem dX7_answer_225 : decode cX7_answer 225 = .ok (.iload_n 1, 1) := by decide +kernel
theorem dX7_answer_226 : decode cX7_answer 226 = .ok (.aaload, 1) := by decide +kernel
theorem dX7_answer_227 : decode cX7_answer 227 = .ok (.iload 5, 2) := by decide +kernel
theorem dX7_answer_229 : decode cX7_answer 229 = .ok (.iaload, 1) := by decide +kernel
theorem dX7_answer_230 : decode cX7_answer 230 = .ok (.if_icmp .ne 7, 3) := by decide +kernel
theorem dX7_answer_233 : decode cX7_answer 233 = .ok (.iconst 1, 1) := by decide +kernel
theorem dX7_answer_234 : decode cX7_answer 234 = .ok (.goto 4, 3) := by decide +kernel
theorem dX7_answer_237 : decode cX7_answer 237 = .ok (.iconst 0, 1) := by decide +kernel
theorem dX7_answer_238 : decode cX7_answer 238 = .ok (.ireturn, 1) := by decide +kernel
theorem dX7_answer_239 : decode cX7_answer 239 = .ok (.iinc 6 1, 3) := by decide +kernel
theorem dX7_answer_242 : decode cX7_answer 242 = .ok (.goto (-160), 3) := by decide +kernel
theorem dX7_answer_245 : decode cX7_answer 245 = .ok (.iinc 4 1, 3) := by decide +kernel
theorem dX7_answer_248 : decode cX7_answer 248 = .ok (.goto (-205), 3) := by decide +kernel
theorem dX7_answer_251 : decode cX7_answer 251 = .ok (.iconst 1, 1) := by decide +kernel
theorem dX7_answer_252 : decode cX7_answer 252 = .ok (.ireturn, 1) := by decide +kernel
theorem dX7_seek_0 : decode cX7_seek 0 = .ok (.aload_n 0, 1) := by decide +kernel
theorem dX7_seek_1 : decode cX7_seek 1 = .ok (.aload_n 0, 1) := by decide +kernel
theorem dX7_seek_2 : decode cX7_seek 2 = .ok (.getfield 105, 3) := by decide +kernel
theorem dX7_seek_5 : decode cX7_seek 5 = .ok (.invokevirtual 94, 3) := by decide +kernel
theorem dX7_seek_8 : decode cX7_seek 8 = .ok (.istore_n 1, 1) := by decide +kernel
theorem dX7_seek_9 : decode cX7_seek 9 = .ok (.aload_n 0, 1) := by decide +kernel
theorem dX7_seek_10 : decode cX7_seek 10 = .ok (.aload_n 0, 1) := by decide +kernel
theorem dX7_seek_11 : decode cX7_seek 11 = .ok (.getfield 25, 3) := by decide +kernel
theorem dX7_seek_14 : decode cX7_seek 14 = .ok (.aload_n 0, 1) := by decide +kernel
theorem dX7_seek_15 : decode cX7_seek 15 = .ok (.getfield 51, 3) := by decide +kernel
theorem dX7_seek_18 : decode cX7_seek 18 = .ok (.iload_n 1, 1) := by decide +kernel
theorem dX7_seek_19 : decode cX7_seek 19 = .ok (.iaload, 1) := by decide +kernel
theorem dX7_seek_20 : decode cX7_seek 20 = .ok (.aaload, 1) := by decide +kernel
theorem dX7_seek_21 : decode cX7_seek 21 = .ok (.arraylength, 1) := by decide +kernel
theorem dX7_seek_22 : decode cX7_seek 22 = .ok (.invokevirtual 94, 3) := by decide +kernel
theorem dX7_seek_25 : decode cX7_seek 25 = .ok (.istore_n 2, 1) := by decide +kernel
theorem dX7_seek_26 : decode cX7_seek 26 = .ok (.aload_n 0, 1) := by decide +kernel
theorem dX7_seek_27 : decode cX7_seek 27 = .ok (.getfield 25, 3) := by decide +kernel
theorem dX7_seek_30 : decode cX7_seek 30 = .ok (.aload_n 0, 1) := by decide +kernel
theorem dX7_seek_31 : decode cX7_seek 31 = .ok (.getfield 51, 3) := by decide +kernel
theorem dX7_seek_34 : decode cX7_seek 34 = .ok (.iload_n 1, 1) := by decide +kernel
theorem dX7_seek_35 : decode cX7_seek 35 = .ok (.iaload, 1) := by decide +kernel
theorem dX7_seek_36 : decode cX7_seek 36 = .ok (.aaload, 1) := by decide +kernel
theorem dX7_seek_37 : decode cX7_seek 37 = .ok (.iload_n 2, 1) := by decide +kernel
theorem dX7_seek_38 : decode cX7_seek 38 = .ok (.aaload, 1) := by decide +kernel
theorem dX7_seek_39 : decode cX7_seek 39 = .ok (.astore_n 3, 1) := by decide +kernel
theorem dX7_seek_40 : decode cX7_seek 40 = .ok (.aload_n 0, 1) := by decide +kernel
theorem dX7_seek_41 : decode cX7_seek 41 = .ok (.getfield 39, 3) := by decide +kernel
theorem dX7_seek_44 : decode cX7_seek 44 = .ok (.aload_n 0, 1) := by decide +kernel
theorem dX7_seek_45 : decode cX7_seek 45 = .ok (.getfield 51, 3) := by decide +kernel
theorem dX7_seek_48 : decode cX7_seek 48 = .ok (.iload_n 1, 1) := by decide +kernel
theorem dX7_seek_49 : decode cX7_seek 49 = .ok (.iaload, 1) := by decide +kernel
theorem dX7_seek_50 : decode cX7_seek 50 = .ok (.aaload, 1) := by decide +kernel
theorem dX7_seek_51 : decode cX7_seek 51 = .ok (.iload_n 2, 1) := by decide +kernel
theorem dX7_seek_52 : decode cX7_seek 52 = .ok (.iaload, 1) := by decide +kernel
theorem dX7_seek_53 : decode cX7_seek 53 = .ok (.istore 4, 2) := by decide +kernel
theorem dX7_seek_55 : decode cX7_seek 55 = .ok (.iload 4, 2) := by decide +kernel
theorem dX7_seek_57 : decode cX7_seek 57 = .ok (.aload_n 0, 1) := by decide +kernel
theorem dX7_seek_58 : decode cX7_seek 58 = .ok (.aload_n 3, 1) := by decide +kernel
theorem dX7_seek_59 : decode cX7_seek 59 = .ok (.arraylength, 1) := by decide +kernel
theorem dX7_seek_60 : decode cX7_seek 60 = .ok (.iload 4, 2) := by decide +kernel
theorem dX7_seek_62 : decode cX7_seek 62 = .ok (.isub, 1) := by decide +kernel
theorem dX7_seek_63 : decode cX7_seek 63 = .ok (.iconst 1, 1) := by decide +kernel
theorem dX7_seek_64 : decode cX7_seek 64 = .ok (.iadd, 1) := by decide +kernel
theorem dX7_seek_65 : decode cX7_seek 65 = .ok (.invokevirtual 94, 3) := by decide +kernel
theorem dX7_seek_68 : decode cX7_seek 68 = .ok (.iadd, 1) := by decide +kernel
theorem dX7_seek_69 : decode cX7_seek 69 = .ok (.istore 5, 2) := by decide +kernel
theorem dX7_seek_71 : decode cX7_seek 71 = .ok (.aload_n 0, 1) := by decide +kernel
theorem dX7_seek_72 : decode cX7_seek 72 = .ok (.getfield 54, 3) := by decide +kernel
theorem dX7_seek_75 : decode cX7_seek 75 = .ok (.iload_n 1, 1) := by decide +kernel
theorem dX7_seek_76 : decode cX7_seek 76 = .ok (.aaload, 1) := by decide +kernel
theorem dX7_seek_77 : decode cX7_seek 77 = .ok (.iload_n 2, 1) := by decide +kernel
theorem dX7_seek_78 : decode cX7_seek 78 = .ok (.iaload, 1) := by decide +kernel
theorem dX7_seek_79 : decode cX7_seek 79 = .ok (.istore 6, 2) := by decide +kernel
theorem dX7_seek_81 : decode cX7_seek 81 = .ok (.iconst 0, 1) := by decide +kernel
theorem dX7_seek_82 : decode cX7_seek 82 = .ok (.istore 7, 2) := by decide +kernel
theorem dX7_seek_84 : decode cX7_seek 84 = .ok (.iload 7, 2) := by decide +kernel
theorem dX7_seek_86 : decode cX7_seek 86 = .ok (.aload_n 3, 1) := by decide +kernel
theorem dX7_seek_87 : decode cX7_seek 87 = .ok (.arraylength, 1) := by decide +kernel
theorem dX7_seek_88 : decode cX7_seek 88 = .ok (.if_icmp .ge 53, 3) := by decide +kernel
theorem dX7_seek_91 : decode cX7_seek 91 = .ok (.iload 7, 2) := by decide +kernel
theorem dX7_seek_93 : decode cX7_seek 93 = .ok (.iload 5, 2) := by decide +kernel
theorem dX7_seek_95 : decode cX7_seek 95 = .ok (.if_icmp .ge 31, 3) := by decide +kernel
theorem dX7_seek_98 : decode cX7_seek 98 = .ok (.aload_n 3, 1) := by decide +kernel
theorem dX7_seek_99 : decode cX7_seek 99 = .ok (.iload 7, 2) := by decide +kernel
theorem dX7_seek_101 : decode cX7_seek 101 = .ok (.aaload, 1) := by decide +kernel
theorem dX7_seek_102 : decode cX7_seek 102 = .ok (.iconst 5, 1) := by decide +kernel
theorem dX7_seek_103 : decode cX7_seek 103 = .ok (.iconst 3, 1) := by decide +kernel
theorem dX7_seek_104 : decode cX7_seek 104 = .ok (.iload_n 1, 1) := by decide +kernel
theorem dX7_seek_105 : decode cX7_seek 105 = .ok (.imul, 1) := by decide +kernel
theorem dX7_seek_106 : decode cX7_seek 106 = .ok (.iadd, 1) := by decide +kernel
theorem dX7_seek_107 : decode cX7_seek 107 = .ok (.iaload, 1) := by decide +kernel
theorem dX7_seek_108 : decode cX7_seek 108 = .ok (.iconst 1, 1) := by decide +kernel
theorem dX7_seek_109 : decode cX7_seek 109 = .ok (.if_icmp .eq 17, 3) := by decide +kernel
theorem dX7_seek_112 : decode cX7_seek 112 = .ok (.aload_n 3, 1) := by decide +kernel
theorem dX7_seek_113 : decode cX7_seek 113 = .ok (.iload 7, 2) := by decide +kernel
theorem dX7_seek_115 : decode cX7_seek 115 = .ok (.aaload, 1) := by decide +kernel
theorem dX7_seek_116 : decode cX7_seek 116 = .ok (.iconst 5, 1) := by decide +kernel
theorem dX7_seek_117 : decode cX7_seek 117 = .ok (.iconst 3, 1) := by decide +kernel
theorem dX7_seek_118 : decode cX7_seek 118 = .ok (.iload_n 1, 1) := by decide +kernel
theorem dX7_seek_119 : decode cX7_seek 119 = .ok (.imul, 1) := by decide +kernel
theorem dX7_seek_120 : decode cX7_seek 120 = .ok (.iadd, 1) := by decide +kernel
theorem dX7_seek_121 : decode cX7_seek 121 = .ok (.iaload, 1) := by decide +kernel
theorem dX7_seek_122 : decode cX7_seek 122 = .ok (.iconst 2, 1) := by decide +kernel
theorem dX7_seek_123 : decode cX7_seek 123 = .ok (.if_icmp .ne 12, 3) := by decide +kernel
theorem dX7_seek_126 : decode cX7_seek 126 = .ok (.aload_n 0, 1) := by decide +kernel
theorem dX7_seek_127 : decode cX7_seek 127 = .ok (.aload_n 3, 1) := by decide +kernel
theorem dX7_seek_128 : decode cX7_seek 128 = .ok (.iload 7, 2) := by decide +kernel
theorem dX7_seek_130 : decode cX7_seek 130 = .ok (.aaload, 1) := by decide +kernel
theorem dX7_seek_131 : decode cX7_seek 131 = .ok (.iload_n 1, 1) := by decide +kernel
theorem dX7_seek_132 : decode cX7_seek 132 = .ok (.invokevirtual 145, 3) := by decide +kernel
theorem dX7_seek_135 : decode cX7_seek 135 = .ok (.iinc 7 1, 3) := by decide +kernel
theorem dX7_seek_138 : decode cX7_seek 138 = .ok (.goto (-54), 3) := by decide +kernel
theorem dX7_seek_141 : decode cX7_seek 141 = .ok (.aload_n 0, 1) := by decide +kernel
theorem dX7_seek_142 : decode cX7_seek 142 = .ok (.getfield 54, 3) := by decide +kernel
theorem dX7_seek_145 : decode cX7_seek 145 = .ok (.iload_n 1, 1) := by decide +kernel
theorem dX7_seek_146 : decode cX7_seek 146 = .ok (.aaload, 1) := by decide +kernel
theorem dX7_seek_147 : decode cX7_seek 147 = .ok (.iload_n 2, 1) := by decide +kernel
theorem dX7_seek_148 : decode cX7_seek 148 = .ok (.iload 5, 2) := by decide +kernel
theorem dX7_seek_150 : decode cX7_seek 150 = .ok (.iastore, 1) := by decide +kernel
theorem dX7_seek_151 : decode cX7_seek 151 = .ok (.aload_n 0, 1) := by decide +kernel
theorem dX7_seek_152 : decode cX7_seek 152 = .ok (.getfield 57, 3) := by decide +kernel
theorem dX7_seek_155 : decode cX7_seek 155 = .ok (.iload_n 1, 1) := by decide +kernel
theorem dX7_seek_156 : decode cX7_seek 156 = .ok (.aaload, 1) := by decide +kernel
theorem dX7_seek_157 : decode cX7_seek 157 = .ok (.iload_n 2, 1) := by decide +kernel
theorem dX7_seek_158 : decode cX7_seek 158 = .ok (.iload 5, 2) := by decide +kernel
theorem dX7_seek_160 : decode cX7_seek 160 = .ok (.iastore, 1) := by decide +kernel
theorem dX7_seek_161 : decode cX7_seek 161 = .ok (.aload_n 0, 1) := by decide +kernel
theorem dX7_seek_162 : decode cX7_seek 162 = .ok (.invokevirtual 126, 3) := by decide +kernel
theorem dX7_seek_165 : decode cX7_seek 165 = .ok (.aload_n 0, 1) := by decide +kernel
theorem dX7_seek_166 : decode cX7_seek 166 = .ok (.getfield 10, 3) := by decide +kernel
theorem dX7_seek_169 : decode cX7_seek 169 = .ok (.iload_n 1, 1) := by decide +kernel
theorem dX7_seek_170 : decode cX7_seek 170 = .ok (.iload_n 2, 1) := by decide +kernel
theorem dX7_seek_171 : decode cX7_seek 171 = .ok (.iload 5, 2) := by decide +kernel
theorem dX7_seek_173 : decode cX7_seek 173 = .ok (.invokevirtual 212, 3) := by decide +kernel
theorem dX7_seek_176 : decode cX7_seek 176 = .ok (.iload 6, 2) := by decide +kernel
theorem dX7_seek_178 : decode cX7_seek 178 = .ok (.if_icmp .ne 7, 3) := by decide +kernel
theorem dX7_seek_181 : decode cX7_seek 181 = .ok (.iconst 1, 1) := by decide +kernel
theorem dX7_seek_182 : decode cX7_seek 182 = .ok (.goto 4, 3) := by decide +kernel
theorem dX7_seek_185 : decode cX7_seek 185 = .ok (.iconst 0, 1) := by decide +kernel
theorem dX7_seek_186 : decode cX7_seek 186 = .ok (.ireturn, 1) := by decide +kernel
theorem dX7_found_0 : decode cX7_found 0 = .ok (.aload_n 0, 1) := by decide +kernel
theorem dX7_found_1 : decode cX7_found 1 = .ok (.invokevirtual 215, 3) := by decide +kernel
theorem dX7_found_4 : decode cX7_found 4 = .ok (.ifCond .eq 31, 3) := by decide +kernel
theorem dX7_found_7 : decode cX7_found 7 = .ok (.aload_n 0, 1) := by decide +kernel
theorem dX7_found_8 : decode cX7_found 8 = .ok (.invokevirtual 215, 3) := by decide +kernel
theorem dX7_found_11 : decode cX7_found 11 = .ok (.ifCond .eq 24, 3) := by decide +kernel
theorem dX7_found_14 : decode cX7_found 14 = .ok (.aload_n 0, 1) := by decide +kernel
theorem dX7_found_15 : decode cX7_found 15 = .ok (.invokevirtual 219, 3) := by decide +kernel
theorem dX7_found_18 : decode cX7_found 18 = .ok (.ifCond .eq 17, 3) := by decide +kernel
theorem dX7_found_21 : decode cX7_found 21 = .ok (.aload_n 0, 1) := by decide +kernel
theorem dX7_found_22 : decode cX7_found 22 = .ok (.invokevirtual 219, 3) := by decide +kernel
theorem dX7_found_25 : decode cX7_found 25 = .ok (.ifCond .eq 10, 3) := by decide +kernel
theorem dX7_found_28 : decode cX7_found 28 = .ok (.aload_n 0, 1) := by decide +kernel
theorem dX7_found_29 : decode cX7_found 29 = .ok (.invokevirtual 222, 3) := by decide +kernel
theorem dX7_found_32 : decode cX7_found 32 = .ok (.ifCond .ne 5, 3) := by decide +kernel
theorem dX7_found_35 : decode cX7_found 35 = .ok (.iconst 0, 1) := by decide +kernel
theorem dX7_found_36 : decode cX7_found 36 = .ok (.ireturn, 1) := by decide +kernel
theorem dX7_found_37 : decode cX7_found 37 = .ok (.iconst 0, 1) := by decide +kernel
theorem dX7_found_38 : decode cX7_found 38 = .ok (.istore_n 1, 1) := by decide +kernel
theorem dX7_found_39 : decode cX7_found 39 = .ok (.iload_n 1, 1) := by decide +kernel
theorem dX7_found_40 : decode cX7_found 40 = .ok (.bipush 8, 2) := by decide +kernel
theorem dX7_found_42 : decode cX7_found 42 = .ok (.if_icmp .ge 30, 3) := by decide +kernel
theorem dX7_found_45 : decode cX7_found 45 = .ok (.aload_n 0, 1) := by decide +kernel
theorem dX7_found_46 : decode cX7_found 46 = .ok (.invokevirtual 224, 3) := by decide +kernel
theorem dX7_found_49 : decode cX7_found 49 = .ok (.ifCond .eq 15, 3) := by decide +kernel
theorem dX7_found_52 : decode cX7_found 52 = .ok (.iload_n 1, 1) := by decide +kernel
theorem dX7_found_53 : decode cX7_found 53 = .ok (.iconst 5, 1) := by decide +kernel
theorem dX7_found_54 : decode cX7_found 54 = .ok (.if_icmp .ge 12, 3) := by decide +kernel
theorem dX7_found_57 : decode cX7_found 57 = .ok (.aload_n 0, 1) := by decide +kernel
theorem dX7_found_58 : decode cX7_found 58 = .ok (.invokevirtual 226, 3) := by decide +kernel
theorem dX7_found_61 : decode cX7_found 61 = .ok (.ifCond .ne 5, 3) := by decide +kernel
theorem dX7_found_64 : decode cX7_found 64 = .ok (.iconst 0, 1) := by decide +kernel
theorem dX7_found_65 : decode cX7_found 65 = .ok (.ireturn, 1) := by decide +kernel
theorem dX7_found_66 : decode cX7_found 66 = .ok (.iinc 1 1, 3) := by decide +kernel
theorem dX7_found_69 : decode cX7_found 69 = .ok (.goto (-30), 3) := by decide +kernel
theorem dX7_found_72 : decode cX7_found 72 = .ok (.iconst 1, 1) := by decide +kernel
theorem dX7_found_73 : decode cX7_found 73 = .ok (.ireturn, 1) := by decide +kernel
theorem dX7_act_0 : decode cX7_act 0 = .ok (.aload_n 0, 1) := by decide +kernel
theorem dX7_act_1 : decode cX7_act 1 = .ok (.bipush 20, 2) := by decide +kernel
theorem dX7_act_3 : decode cX7_act 3 = .ok (.invokevirtual 94, 3) := by decide +kernel
theorem dX7_act_6 : decode cX7_act 6 = .ok (.tableswitch 160 0 18 #[90, 90, 90, 90, 95, 100, 120, 140, 140, 145, 145, 150, 150, 150, 150, 150, 155, 155, 155], 90) := by decide +kernel
theorem dX7_act_96 : decode cX7_act 96 = .ok (.aload_n 0, 1) := by decide +kernel
theorem dX7_act_97 : decode cX7_act 97 = .ok (.invokevirtual 224, 3) := by decide +kernel
theorem dX7_act_100 : decode cX7_act 100 = .ok (.ireturn, 1) := by decide +kernel
theorem dX7_act_101 : decode cX7_act 101 = .ok (.aload_n 0, 1) := by decide +kernel
theorem dX7_act_102 : decode cX7_act 102 = .ok (.invokevirtual 228, 3) := by decide +kernel
theorem dX7_act_105 : decode cX7_act 105 = .ok (.ireturn, 1) := by decide +kernel
theorem dX7_act_106 : decode cX7_act 106 = .ok (.aload_n 0, 1) := by decide +kernel
theorem dX7_act_107 : decode cX7_act 107 = .ok (.iconst 3, 1) := by decide +kernel
theorem dX7_act_108 : decode cX7_act 108 = .ok (.invokevirtual 94, 3) := by decide +kernel
theorem dX7_act_111 : decode cX7_act 111 = .ok (.ifCond .ne 10, 3) := by decide +kernel
theorem dX7_act_114 : decode cX7_act 114 = .ok (.aload_n 0, 1) := by decide +kernel
theorem dX7_act_115 : decode cX7_act 115 = .ok (.invokevirtual 230, 3) := by decide +kernel
theorem dX7_act_118 : decode cX7_act 118 = .ok (.goto 7, 3) := by decide +kernel
theorem dX7_act_121 : decode cX7_act 121 = .ok (.aload_n 0, 1) := by decide +kernel
theorem dX7_act_122 : decode cX7_act 122 = .ok (.invokevirtual 224, 3) := by decide +kernel
theorem dX7_act_125 : decode cX7_act 125 = .ok (.ireturn, 1) := by decide +kernel
theorem dX7_act_126 : decode cX7_act 126 = .ok (.aload_n 0, 1) := by decide +kernel
theorem dX7_act_127 : decode cX7_act 127 = .ok (.iconst 3, 1) := by decide +kernel
theorem dX7_act_128 : decode cX7_act 128 = .ok (.invokevirtual 94, 3) := by decide +kernel
theorem dX7_act_131 : decode cX7_act 131 = .ok (.ifCond .ne 10, 3) := by decide +kernel
theorem dX7_act_134 : decode cX7_act 134 = .ok (.aload_n 0, 1) := by decide +kernel
theorem dX7_act_135 : decode cX7_act 135 = .ok (.invokevirtual 232, 3) := by decide +kernel
theorem dX7_act_138 : decode cX7_act 138 = .ok (.goto 7, 3) := by decide +kernel
theorem dX7_act_141 : decode cX7_act 141 = .ok (.aload_n 0, 1) := by decide +kernel
theorem dX7_act_142 : decode cX7_act 142 = .ok (.invokevirtual 234, 3) := by decide +kernel
theorem dX7_act_145 : decode cX7_act 145 = .ok (.ireturn, 1) := by decide +kernel
theorem dX7_act_146 : decode cX7_act 146 = .ok (.aload_n 0, 1) := by decide +kernel
theorem dX7_act_147 : decode cX7_act 147 = .ok (.invokevirtual 234, 3) := by decide +kernel
theorem dX7_act_150 : decode cX7_act 150 = .ok (.ireturn, 1) := by decide +kernel
theorem dX7_act_151 : decode cX7_act 151 = .ok (.aload_n 0, 1) := by decide +kernel
theorem dX7_act_152 : decode cX7_act 152 = .ok (.invokevirtual 226, 3) := by decide +kernel
theorem dX7_act_155 : decode cX7_act 155 = .ok (.ireturn, 1) := by decide +kernel
theorem dX7_act_156 : decode cX7_act 156 = .ok (.aload_n 0, 1) := by decide +kernel
theorem dX7_act_157 : decode cX7_act 157 = .ok (.invokevirtual 236, 3) := by decide +kernel
theorem dX7_act_160 : decode cX7_act 160 = .ok (.ireturn, 1) := by decide +kernel
theorem dX7_act_161 : decode cX7_act 161 = .ok (.aload_n 0, 1) := by decide +kernel
theorem dX7_act_162 : decode cX7_act 162 = .ok (.invokevirtual 238, 3) := by decide +kernel
theorem dX7_act_165 : decode cX7_act 165 = .ok (.ireturn, 1) := by decide +kernel
theorem dX7_act_166 : decode cX7_act 166 = .ok (.aload_n 0, 1) := by decide +kernel
theorem dX7_act_167 : decode cX7_act 167 = .ok (.iconst 3, 1) := by decide +kernel
theorem dX7_act_168 : decode cX7_act 168 = .ok (.invokevirtual 94, 3) := by decide +kernel
theorem dX7_act_171 : decode cX7_act 171 = .ok (.ifCond .ne 10, 3) := by decide +kernel
theorem dX7_act_174 : decode cX7_act 174 = .ok (.aload_n 0, 1) := by decide +kernel
theorem dX7_act_175 : decode cX7_act 175 = .ok (.invokevirtual 241, 3) := by decide +kernel
theorem dX7_act_178 : decode cX7_act 178 = .ok (.goto 22, 3) := by decide +kernel
theorem dX7_act_181 : decode cX7_act 181 = .ok (.aload_n 0, 1) := by decide +kernel
theorem dX7_act_182 : decode cX7_act 182 = .ok (.iconst 4, 1) := by decide +kernel
theorem dX7_act_183 : decode cX7_act 183 = .ok (.invokevirtual 94, 3) := by decide +kernel
theorem dX7_act_186 : decode cX7_act 186 = .ok (.ifCond .ne 10, 3) := by decide +kernel
theorem dX7_act_189 : decode cX7_act 189 = .ok (.aload_n 0, 1) := by decide +kernel
theorem dX7_act_190 : decode cX7_act 190 = .ok (.invokevirtual 219, 3) := by decide +kernel
theorem dX7_act_193 : decode cX7_act 193 = .ok (.goto 7, 3) := by decide +kernel
theorem dX7_act_196 : decode cX7_act 196 = .ok (.aload_n 0, 1) := by decide +kernel
theorem dX7_act_197 : decode cX7_act 197 = .ok (.invokevirtual 236, 3) := by decide +kernel
theorem dX7_act_200 : decode cX7_act 200 = .ok (.ireturn, 1) := by decide +kernel
