theorem dX7_init_0 : decode cX7_init 0 = .ok (.aload_n 0, 1) := by decide +kernel
theorem dX7_init_1 : decode cX7_init 1 = .ok (.invokespecial 1, 3) := by decide +kernel
theorem dX7_init_4 : decode cX7_init 4 = .ok (.aload_n 0, 1) := by decide +kernel
theorem dX7_init_5 : decode cX7_init 5 = .ok (.iconst 2, 1) := by decide +kernel
theorem dX7_init_6 : decode cX7_init 6 = .ok (.putfield 7, 3) := by decide +kernel
theorem dX7_init_9 : decode cX7_init 9 = .ok (.aload_n 0, 1) := by decide +kernel
theorem dX7_init_10 : decode cX7_init 10 = .ok (.bipush 10, 2) := by decide +kernel
theorem dX7_init_12 : decode cX7_init 12 = .ok (.putfield 13, 3) := by decide +kernel
theorem dX7_init_15 : decode cX7_init 15 = .ok (.aload_n 0, 1) := by decide +kernel
theorem dX7_init_16 : decode cX7_init 16 = .ok (.iconst 4, 1) := by decide +kernel
theorem dX7_init_17 : decode cX7_init 17 = .ok (.newarray .int, 2) := by decide +kernel
theorem dX7_init_19 : decode cX7_init 19 = .ok (.putfield 16, 3) := by decide +kernel
theorem dX7_init_22 : decode cX7_init 22 = .ok (.aload_n 0, 1) := by decide +kernel
theorem dX7_init_23 : decode cX7_init 23 = .ok (.iconst 4, 1) := by decide +kernel
theorem dX7_init_24 : decode cX7_init 24 = .ok (.newarray .int, 2) := by decide +kernel
theorem dX7_init_26 : decode cX7_init 26 = .ok (.putfield 20, 3) := by decide +kernel
theorem dX7_init_29 : decode cX7_init 29 = .ok (.aload_n 0, 1) := by decide +kernel
theorem dX7_init_30 : decode cX7_init 30 = .ok (.bipush 16, 2) := by decide +kernel
theorem dX7_init_32 : decode cX7_init 32 = .ok (.newarray .int, 2) := by decide +kernel
theorem dX7_init_34 : decode cX7_init 34 = .ok (.putfield 23, 3) := by decide +kernel
theorem dX7_init_37 : decode cX7_init 37 = .ok (.aload_n 0, 1) := by decide +kernel
theorem dX7_init_38 : decode cX7_init 38 = .ok (.bipush 16, 2) := by decide +kernel
theorem dX7_init_40 : decode cX7_init 40 = .ok (.newarray .int, 2) := by decide +kernel
theorem dX7_init_42 : decode cX7_init 42 = .ok (.putfield 26, 3) := by decide +kernel
theorem dX7_init_45 : decode cX7_init 45 = .ok (.aload_n 0, 1) := by decide +kernel
theorem dX7_init_46 : decode cX7_init 46 = .ok (.bipush 16, 2) := by decide +kernel
theorem dX7_init_48 : decode cX7_init 48 = .ok (.newarray .int, 2) := by decide +kernel
theorem dX7_init_50 : decode cX7_init 50 = .ok (.putfield 29, 3) := by decide +kernel
theorem dX7_init_53 : decode cX7_init 53 = .ok (.aload_n 0, 1) := by decide +kernel
theorem dX7_init_54 : decode cX7_init 54 = .ok (.iconst 4, 1) := by decide +kernel
theorem dX7_init_55 : decode cX7_init 55 = .ok (.newarray .boolean, 2) := by decide +kernel
theorem dX7_init_57 : decode cX7_init 57 = .ok (.putfield 32, 3) := by decide +kernel
theorem dX7_init_60 : decode cX7_init 60 = .ok (.aload_n 0, 1) := by decide +kernel
theorem dX7_init_61 : decode cX7_init 61 = .ok (.bipush 80, 2) := by decide +kernel
theorem dX7_init_63 : decode cX7_init 63 = .ok (.newarray .int, 2) := by decide +kernel
theorem dX7_init_65 : decode cX7_init 65 = .ok (.putfield 36, 3) := by decide +kernel
theorem dX7_init_68 : decode cX7_init 68 = .ok (.aload_n 0, 1) := by decide +kernel
theorem dX7_init_69 : decode cX7_init 69 = .ok (.bipush 80, 2) := by decide +kernel
theorem dX7_init_71 : decode cX7_init 71 = .ok (.newarray .int, 2) := by decide +kernel
theorem dX7_init_73 : decode cX7_init 73 = .ok (.putfield 39, 3) := by decide +kernel
theorem dX7_init_76 : decode cX7_init 76 = .ok (.aload_n 0, 1) := by decide +kernel
theorem dX7_init_77 : decode cX7_init 77 = .ok (.bipush 80, 2) := by decide +kernel
theorem dX7_init_79 : decode cX7_init 79 = .ok (.newarray .int, 2) := by decide +kernel
theorem dX7_init_81 : decode cX7_init 81 = .ok (.putfield 42, 3) := by decide +kernel
theorem dX7_init_84 : decode cX7_init 84 = .ok (.aload_n 0, 1) := by decide +kernel
theorem dX7_init_85 : decode cX7_init 85 = .ok (.bipush 80, 2) := by decide +kernel
theorem dX7_init_87 : decode cX7_init 87 = .ok (.newarray .int, 2) := by decide +kernel
theorem dX7_init_89 : decode cX7_init 89 = .ok (.putfield 45, 3) := by decide +kernel
theorem dX7_init_92 : decode cX7_init 92 = .ok (.aload_n 0, 1) := by decide +kernel
theorem dX7_init_93 : decode cX7_init 93 = .ok (.bipush 80, 2) := by decide +kernel
theorem dX7_init_95 : decode cX7_init 95 = .ok (.newarray .int, 2) := by decide +kernel
theorem dX7_init_97 : decode cX7_init 97 = .ok (.putfield 48, 3) := by decide +kernel
theorem dX7_init_100 : decode cX7_init 100 = .ok (.aload_n 0, 1) := by decide +kernel
theorem dX7_init_101 : decode cX7_init 101 = .ok (.bipush 80, 2) := by decide +kernel
theorem dX7_init_103 : decode cX7_init 103 = .ok (.newarray .int, 2) := by decide +kernel
theorem dX7_init_105 : decode cX7_init 105 = .ok (.putfield 51, 3) := by decide +kernel
theorem dX7_init_108 : decode cX7_init 108 = .ok (.aload_n 0, 1) := by decide +kernel
theorem dX7_init_109 : decode cX7_init 109 = .ok (.bipush 80, 2) := by decide +kernel
theorem dX7_init_111 : decode cX7_init 111 = .ok (.newarray .boolean, 2) := by decide +kernel
theorem dX7_init_113 : decode cX7_init 113 = .ok (.putfield 54, 3) := by decide +kernel
theorem dX7_init_116 : decode cX7_init 116 = .ok (.aload_n 0, 1) := by decide +kernel
theorem dX7_init_117 : decode cX7_init 117 = .ok (.sipush 1280, 3) := by decide +kernel
theorem dX7_init_120 : decode cX7_init 120 = .ok (.newarray .int, 2) := by decide +kernel
theorem dX7_init_122 : decode cX7_init 122 = .ok (.putfield 57, 3) := by decide +kernel
theorem dX7_init_125 : decode cX7_init 125 = .ok (.aload_n 0, 1) := by decide +kernel
theorem dX7_init_126 : decode cX7_init 126 = .ok (.bipush 8, 2) := by decide +kernel
theorem dX7_init_128 : decode cX7_init 128 = .ok (.newarray .int, 2) := by decide +kernel
theorem dX7_init_130 : decode cX7_init 130 = .ok (.putfield 60, 3) := by decide +kernel
theorem dX7_init_133 : decode cX7_init 133 = .ok (.aload_n 0, 1) := by decide +kernel
theorem dX7_init_134 : decode cX7_init 134 = .ok (.iconst 4, 1) := by decide +kernel
theorem dX7_init_135 : decode cX7_init 135 = .ok (.newarray .int, 2) := by decide +kernel
theorem dX7_init_137 : decode cX7_init 137 = .ok (.putfield 63, 3) := by decide +kernel
theorem dX7_init_140 : decode cX7_init 140 = .ok (.aload_n 0, 1) := by decide +kernel
theorem dX7_init_141 : decode cX7_init 141 = .ok (.iconst 4, 1) := by decide +kernel
theorem dX7_init_142 : decode cX7_init 142 = .ok (.newarray .int, 2) := by decide +kernel
theorem dX7_init_144 : decode cX7_init 144 = .ok (.putfield 66, 3) := by decide +kernel
theorem dX7_init_147 : decode cX7_init 147 = .ok (.aload_n 0, 1) := by decide +kernel
theorem dX7_init_148 : decode cX7_init 148 = .ok (.bipush 16, 2) := by decide +kernel
theorem dX7_init_150 : decode cX7_init 150 = .ok (.newarray .int, 2) := by decide +kernel
theorem dX7_init_152 : decode cX7_init 152 = .ok (.putfield 69, 3) := by decide +kernel
theorem dX7_init_155 : decode cX7_init 155 = .ok (.aload_n 0, 1) := by decide +kernel
theorem dX7_init_156 : decode cX7_init 156 = .ok (.bipush 16, 2) := by decide +kernel
theorem dX7_init_158 : decode cX7_init 158 = .ok (.newarray .int, 2) := by decide +kernel
theorem dX7_init_160 : decode cX7_init 160 = .ok (.putfield 72, 3) := by decide +kernel
theorem dX7_init_163 : decode cX7_init 163 = .ok (.aload_n 0, 1) := by decide +kernel
theorem dX7_init_164 : decode cX7_init 164 = .ok (.bipush 16, 2) := by decide +kernel
theorem dX7_init_166 : decode cX7_init 166 = .ok (.newarray .int, 2) := by decide +kernel
theorem dX7_init_168 : decode cX7_init 168 = .ok (.putfield 75, 3) := by decide +kernel
theorem dX7_init_171 : decode cX7_init 171 = .ok (.aload_n 0, 1) := by decide +kernel
theorem dX7_init_172 : decode cX7_init 172 = .ok (.bipush 24, 2) := by decide +kernel
theorem dX7_init_174 : decode cX7_init 174 = .ok (.newarray .boolean, 2) := by decide +kernel
theorem dX7_init_176 : decode cX7_init 176 = .ok (.putfield 78, 3) := by decide +kernel
theorem dX7_init_179 : decode cX7_init 179 = .ok (.aload_n 0, 1) := by decide +kernel
theorem dX7_init_180 : decode cX7_init 180 = .ok (.sipush 320, 3) := by decide +kernel
theorem dX7_init_183 : decode cX7_init 183 = .ok (.newarray .int, 2) := by decide +kernel
theorem dX7_init_185 : decode cX7_init 185 = .ok (.putfield 81, 3) := by decide +kernel
theorem dX7_init_188 : decode cX7_init 188 = .ok (.aload_n 0, 1) := by decide +kernel
theorem dX7_init_189 : decode cX7_init 189 = .ok (.sipush 320, 3) := by decide +kernel
theorem dX7_init_192 : decode cX7_init 192 = .ok (.newarray .int, 2) := by decide +kernel
theorem dX7_init_194 : decode cX7_init 194 = .ok (.putfield 84, 3) := by decide +kernel
theorem dX7_init_197 : decode cX7_init 197 = .ok (.aload_n 0, 1) := by decide +kernel
theorem dX7_init_198 : decode cX7_init 198 = .ok (.sipush 320, 3) := by decide +kernel
theorem dX7_init_201 : decode cX7_init 201 = .ok (.newarray .int, 2) := by decide +kernel
theorem dX7_init_203 : decode cX7_init 203 = .ok (.putfield 87, 3) := by decide +kernel
theorem dX7_init_206 : decode cX7_init 206 = .ok (.aload_n 0, 1) := by decide +kernel
theorem dX7_init_207 : decode cX7_init 207 = .ok (.sipush 1000, 3) := by decide +kernel
theorem dX7_init_210 : decode cX7_init 210 = .ok (.newarray .int, 2) := by decide +kernel
theorem dX7_init_212 : decode cX7_init 212 = .ok (.putfield 90, 3) := by decide +kernel
theorem dX7_init_215 : decode cX7_init 215 = .ok (.iconst 0, 1) := by decide +kernel
theorem dX7_init_216 : decode cX7_init 216 = .ok (.istore_n 1, 1) := by decide +kernel
theorem dX7_init_217 : decode cX7_init 217 = .ok (.iload_n 1, 1) := by decide +kernel
theorem dX7_init_218 : decode cX7_init 218 = .ok (.iconst 4, 1) := by decide +kernel
theorem dX7_init_219 : decode cX7_init 219 = .ok (.if_icmp .ge 16, 3) := by decide +kernel
theorem dX7_init_222 : decode cX7_init 222 = .ok (.aload_n 0, 1) := by decide +kernel
theorem dX7_init_223 : decode cX7_init 223 = .ok (.getfield 63, 3) := by decide +kernel
theorem dX7_init_226 : decode cX7_init 226 = .ok (.iload_n 1, 1) := by decide +kernel
theorem dX7_init_227 : decode cX7_init 227 = .ok (.iconst (-1), 1) := by decide +kernel
theorem dX7_init_228 : decode cX7_init 228 = .ok (.iastore, 1) := by decide +kernel
theorem dX7_init_229 : decode cX7_init 229 = .ok (.iinc 1 1, 3) := by decide +kernel
theorem dX7_init_232 : decode cX7_init 232 = .ok (.goto (-15), 3) := by decide +kernel
theorem dX7_init_235 : decode cX7_init 235 = .ok (.return_, 1) := by decide +kernel
theorem dX7_thrown_0 : decode cX7_thrown 0 = .ok (.aload_n 0, 1) := by decide +kernel
theorem dX7_thrown_1 : decode cX7_thrown 1 = .ok (.getfield 93, 3) := by decide +kernel
theorem dX7_thrown_4 : decode cX7_thrown 4 = .ok (.ireturn, 1) := by decide +kernel
theorem dX7_no_0 : decode cX7_no 0 = .ok (.aload_n 0, 1) := by decide +kernel
theorem dX7_no_1 : decode cX7_no 1 = .ok (.iload_n 1, 1) := by decide +kernel
theorem dX7_no_2 : decode cX7_no 2 = .ok (.putfield 93, 3) := by decide +kernel
theorem dX7_no_5 : decode cX7_no 5 = .ok (.iconst 0, 1) := by decide +kernel
theorem dX7_no_6 : decode cX7_no 6 = .ok (.ireturn, 1) := by decide +kernel
theorem dX7_isNot_0 : decode cX7_isNot 0 = .ok (.aload_n 0, 1) := by decide +kernel
theorem dX7_isNot_1 : decode cX7_isNot 1 = .ok (.iload_n 1, 1) := by decide +kernel
theorem dX7_isNot_2 : decode cX7_isNot 2 = .ok (.putfield 93, 3) := by decide +kernel
theorem dX7_isNot_5 : decode cX7_isNot 5 = .ok (.iconst 0, 1) := by decide +kernel
theorem dX7_isNot_6 : decode cX7_isNot 6 = .ok (.ireturn, 1) := by decide +kernel
theorem dX7_ok_0 : decode cX7_ok 0 = .ok (.aload_n 0, 1) := by decide +kernel
theorem dX7_ok_1 : decode cX7_ok 1 = .ok (.iconst 0, 1) := by decide +kernel
theorem dX7_ok_2 : decode cX7_ok 2 = .ok (.putfield 93, 3) := by decide +kernel
theorem dX7_ok_5 : decode cX7_ok 5 = .ok (.iload_n 1, 1) := by decide +kernel
theorem dX7_ok_6 : decode cX7_ok 6 = .ok (.ireturn, 1) := by decide +kernel
theorem dX7_isWithin_0 : decode cX7_isWithin 0 = .ok (.iload_n 0, 1) := by decide +kernel
theorem dX7_isWithin_1 : decode cX7_isWithin 1 = .ok (.iload_n 1, 1) := by decide +kernel
theorem dX7_isWithin_2 : decode cX7_isWithin 2 = .ok (.if_icmp .lt 12, 3) := by decide +kernel
theorem dX7_isWithin_5 : decode cX7_isWithin 5 = .ok (.iload_n 0, 1) := by decide +kernel
theorem dX7_isWithin_6 : decode cX7_isWithin 6 = .ok (.iload_n 2, 1) := by decide +kernel
theorem dX7_isWithin_7 : decode cX7_isWithin 7 = .ok (.if_icmp .gt 7, 3) := by decide +kernel
theorem dX7_isWithin_10 : decode cX7_isWithin 10 = .ok (.iconst 1, 1) := by decide +kernel
theorem dX7_isWithin_11 : decode cX7_isWithin 11 = .ok (.goto 4, 3) := by decide +kernel
theorem dX7_isWithin_14 : decode cX7_isWithin 14 = .ok (.iconst 0, 1) := by decide +kernel
theorem dX7_isWithin_15 : decode cX7_isWithin 15 = .ok (.ireturn, 1) := by decide +kernel
theorem dX7_isTopic_0 : decode cX7_isTopic 0 = .ok (.iload_n 1, 1) := by decide +kernel
theorem dX7_isTopic_1 : decode cX7_isTopic 1 = .ok (.iconst 0, 1) := by decide +kernel
theorem dX7_isTopic_2 : decode cX7_isTopic 2 = .ok (.aload_n 0, 1) := by decide +kernel
theorem dX7_isTopic_3 : decode cX7_isTopic 3 = .ok (.getfield 96, 3) := by decide +kernel
theorem dX7_isTopic_6 : decode cX7_isTopic 6 = .ok (.iconst 1, 1) := by decide +kernel
theorem dX7_isTopic_7 : decode cX7_isTopic 7 = .ok (.isub, 1) := by decide +kernel
theorem dX7_isTopic_8 : decode cX7_isTopic 8 = .ok (.invokestatic 99, 3) := by decide +kernel
theorem dX7_isTopic_11 : decode cX7_isTopic 11 = .ok (.ireturn, 1) := by decide +kernel
theorem dX7_isPartition_0 : decode cX7_isPartition 0 = .ok (.aload_n 0, 1) := by decide +kernel
theorem dX7_isPartition_1 : decode cX7_isPartition 1 = .ok (.iload_n 1, 1) := by decide +kernel
theorem dX7_isPartition_2 : decode cX7_isPartition 2 = .ok (.invokevirtual 103, 3) := by decide +kernel
theorem dX7_isPartition_5 : decode cX7_isPartition 5 = .ok (.ifCond .eq 23, 3) := by decide +kernel
theorem dX7_isPartition_8 : decode cX7_isPartition 8 = .ok (.iload_n 2, 1) := by decide +kernel
theorem dX7_isPartition_9 : decode cX7_isPartition 9 = .ok (.iconst 0, 1) := by decide +kernel
theorem dX7_isPartition_10 : decode cX7_isPartition 10 = .ok (.aload_n 0, 1) := by decide +kernel
theorem dX7_isPartition_11 : decode cX7_isPartition 11 = .ok (.getfield 16, 3) := by decide +kernel
theorem dX7_isPartition_14 : decode cX7_isPartition 14 = .ok (.iload_n 1, 1) := by decide +kernel
theorem dX7_isPartition_15 : decode cX7_isPartition 15 = .ok (.iaload, 1) := by decide +kernel
theorem dX7_isPartition_16 : decode cX7_isPartition 16 = .ok (.iconst 1, 1) := by decide +kernel
theorem dX7_isPartition_17 : decode cX7_isPartition 17 = .ok (.isub, 1) := by decide +kernel
theorem dX7_isPartition_18 : decode cX7_isPartition 18 = .ok (.invokestatic 99, 3) := by decide +kernel
theorem dX7_isPartition_21 : decode cX7_isPartition 21 = .ok (.ifCond .eq 7, 3) := by decide +kernel
theorem dX7_isPartition_24 : decode cX7_isPartition 24 = .ok (.iconst 1, 1) := by decide +kernel
theorem dX7_isPartition_25 : decode cX7_isPartition 25 = .ok (.goto 4, 3) := by decide +kernel
theorem dX7_isPartition_28 : decode cX7_isPartition 28 = .ok (.iconst 0, 1) := by decide +kernel
theorem dX7_isPartition_29 : decode cX7_isPartition 29 = .ok (.ireturn, 1) := by decide +kernel
theorem dX7_isGroup_0 : decode cX7_isGroup 0 = .ok (.iload_n 1, 1) := by decide +kernel
theorem dX7_isGroup_1 : decode cX7_isGroup 1 = .ok (.iconst 0, 1) := by decide +kernel
theorem dX7_isGroup_2 : decode cX7_isGroup 2 = .ok (.aload_n 0, 1) := by decide +kernel
theorem dX7_isGroup_3 : decode cX7_isGroup 3 = .ok (.getfield 107, 3) := by decide +kernel
theorem dX7_isGroup_6 : decode cX7_isGroup 6 = .ok (.iconst 1, 1) := by decide +kernel
theorem dX7_isGroup_7 : decode cX7_isGroup 7 = .ok (.isub, 1) := by decide +kernel
theorem dX7_isGroup_8 : decode cX7_isGroup 8 = .ok (.invokestatic 99, 3) := by decide +kernel
theorem dX7_isGroup_11 : decode cX7_isGroup 11 = .ok (.ireturn, 1) := by decide +kernel
theorem dX7_isShare_0 : decode cX7_isShare 0 = .ok (.aload_n 0, 1) := by decide +kernel
theorem dX7_isShare_1 : decode cX7_isShare 1 = .ok (.iload_n 1, 1) := by decide +kernel
theorem dX7_isShare_2 : decode cX7_isShare 2 = .ok (.invokevirtual 110, 3) := by decide +kernel
theorem dX7_isShare_5 : decode cX7_isShare 5 = .ok (.ifCond .eq 28, 3) := by decide +kernel
theorem dX7_isShare_8 : decode cX7_isShare 8 = .ok (.iload_n 2, 1) := by decide +kernel
theorem dX7_isShare_9 : decode cX7_isShare 9 = .ok (.iconst 0, 1) := by decide +kernel
theorem dX7_isShare_10 : decode cX7_isShare 10 = .ok (.aload_n 0, 1) := by decide +kernel
theorem dX7_isShare_11 : decode cX7_isShare 11 = .ok (.getfield 16, 3) := by decide +kernel
theorem dX7_isShare_14 : decode cX7_isShare 14 = .ok (.aload_n 0, 1) := by decide +kernel
theorem dX7_isShare_15 : decode cX7_isShare 15 = .ok (.getfield 66, 3) := by decide +kernel
theorem dX7_isShare_18 : decode cX7_isShare 18 = .ok (.iload_n 1, 1) := by decide +kernel
theorem dX7_isShare_19 : decode cX7_isShare 19 = .ok (.iaload, 1) := by decide +kernel
theorem dX7_isShare_20 : decode cX7_isShare 20 = .ok (.iaload, 1) := by decide +kernel
theorem dX7_isShare_21 : decode cX7_isShare 21 = .ok (.iconst 1, 1) := by decide +kernel
theorem dX7_isShare_22 : decode cX7_isShare 22 = .ok (.isub, 1) := by decide +kernel
theorem dX7_isShare_23 : decode cX7_isShare 23 = .ok (.invokestatic 99, 3) := by decide +kernel
theorem dX7_isShare_26 : decode cX7_isShare 26 = .ok (.ifCond .eq 7, 3) := by decide +kernel
theorem dX7_isShare_29 : decode cX7_isShare 29 = .ok (.iconst 1, 1) := by decide +kernel
theorem dX7_isShare_30 : decode cX7_isShare 30 = .ok (.goto 4, 3) := by decide +kernel
theorem dX7_isShare_33 : decode cX7_isShare 33 = .ok (.iconst 0, 1) := by decide +kernel
theorem dX7_isShare_34 : decode cX7_isShare 34 = .ok (.ireturn, 1) := by decide +kernel
theorem dX7_isReader_0 : decode cX7_isReader 0 = .ok (.iload_n 0, 1) := by decide +kernel
theorem dX7_isReader_1 : decode cX7_isReader 1 = .ok (.iconst 0, 1) := by decide +kernel
theorem dX7_isReader_2 : decode cX7_isReader 2 = .ok (.iconst 5, 1) := by decide +kernel
theorem dX7_isReader_3 : decode cX7_isReader 3 = .ok (.invokestatic 99, 3) := by decide +kernel
theorem dX7_isReader_6 : decode cX7_isReader 6 = .ok (.ireturn, 1) := by decide +kernel
theorem dX7_isProducer_0 : decode cX7_isProducer 0 = .ok (.iload_n 0, 1) := by decide +kernel
theorem dX7_isProducer_1 : decode cX7_isProducer 1 = .ok (.iconst 0, 1) := by decide +kernel
theorem dX7_isProducer_2 : decode cX7_isProducer 2 = .ok (.iconst 3, 1) := by decide +kernel
theorem dX7_isProducer_3 : decode cX7_isProducer 3 = .ok (.invokestatic 99, 3) := by decide +kernel
theorem dX7_isProducer_6 : decode cX7_isProducer 6 = .ok (.ireturn, 1) := by decide +kernel
theorem dX7_messageAt_0 : decode cX7_messageAt 0 = .ok (.aload_n 0, 1) := by decide +kernel
theorem dX7_messageAt_1 : decode cX7_messageAt 1 = .ok (.getfield 57, 3) := by decide +kernel
theorem dX7_messageAt_4 : decode cX7_messageAt 4 = .ok (.iload_n 1, 1) := by decide +kernel
theorem dX7_messageAt_5 : decode cX7_messageAt 5 = .ok (.bipush 80, 2) := by decide +kernel
theorem dX7_messageAt_7 : decode cX7_messageAt 7 = .ok (.imul, 1) := by decide +kernel
theorem dX7_messageAt_8 : decode cX7_messageAt 8 = .ok (.iload_n 2, 1) := by decide +kernel
theorem dX7_messageAt_9 : decode cX7_messageAt 9 = .ok (.iadd, 1) := by decide +kernel
theorem dX7_messageAt_10 : decode cX7_messageAt 10 = .ok (.iaload, 1) := by decide +kernel
theorem dX7_messageAt_11 : decode cX7_messageAt 11 = .ok (.ireturn, 1) := by decide +kernel
theorem dX7_seen_0 : decode cX7_seen 0 = .ok (.aload_n 0, 1) := by decide +kernel
theorem dX7_seen_1 : decode cX7_seen 1 = .ok (.getfield 51, 3) := by decide +kernel
theorem dX7_seen_4 : decode cX7_seen 4 = .ok (.iload_n 1, 1) := by decide +kernel
theorem dX7_seen_5 : decode cX7_seen 5 = .ok (.iaload, 1) := by decide +kernel
theorem dX7_seen_6 : decode cX7_seen 6 = .ok (.iconst (-1), 1) := by decide +kernel
theorem dX7_seen_7 : decode cX7_seen 7 = .ok (.if_icmp .eq 18, 3) := by decide +kernel
theorem dX7_seen_10 : decode cX7_seen 10 = .ok (.aload_n 0, 1) := by decide +kernel
theorem dX7_seen_11 : decode cX7_seen 11 = .ok (.getfield 60, 3) := by decide +kernel
theorem dX7_seen_14 : decode cX7_seen 14 = .ok (.aload_n 0, 1) := by decide +kernel
theorem dX7_seen_15 : decode cX7_seen 15 = .ok (.getfield 51, 3) := by decide +kernel
theorem dX7_seen_18 : decode cX7_seen 18 = .ok (.iload_n 1, 1) := by decide +kernel
theorem dX7_seen_19 : decode cX7_seen 19 = .ok (.iaload, 1) := by decide +kernel
theorem dX7_seen_20 : decode cX7_seen 20 = .ok (.iaload, 1) := by decide +kernel
theorem dX7_seen_21 : decode cX7_seen 21 = .ok (.iconst 1, 1) := by decide +kernel
theorem dX7_seen_22 : decode cX7_seen 22 = .ok (.if_icmp .ne 5, 3) := by decide +kernel
theorem dX7_seen_25 : decode cX7_seen 25 = .ok (.iconst 0, 1) := by decide +kernel
theorem dX7_seen_26 : decode cX7_seen 26 = .ok (.ireturn, 1) := by decide +kernel
theorem dX7_seen_27 : decode cX7_seen 27 = .ok (.aload_n 0, 1) := by decide +kernel
theorem dX7_seen_28 : decode cX7_seen 28 = .ok (.getfield 60, 3) := by decide +kernel
theorem dX7_seen_31 : decode cX7_seen 31 = .ok (.aload_n 0, 1) := by decide +kernel
theorem dX7_seen_32 : decode cX7_seen 32 = .ok (.getfield 51, 3) := by decide +kernel
theorem dX7_seen_35 : decode cX7_seen 35 = .ok (.iload_n 1, 1) := by decide +kernel
theorem dX7_seen_36 : decode cX7_seen 36 = .ok (.iaload, 1) := by decide +kernel
theorem dX7_seen_37 : decode cX7_seen 37 = .ok (.iaload, 1) := by decide +kernel
theorem dX7_seen_38 : decode cX7_seen 38 = .ok (.iconst 2, 1) := by decide +kernel
theorem dX7_seen_39 : decode cX7_seen 39 = .ok (.if_icmp .ne 7, 3) := by decide +kernel
theorem dX7_seen_42 : decode cX7_seen 42 = .ok (.iconst 1, 1) := by decide +kernel
theorem dX7_seen_43 : decode cX7_seen 43 = .ok (.goto 4, 3) := by decide +kernel
theorem dX7_seen_46 : decode cX7_seen 46 = .ok (.iconst 2, 1) := by decide +kernel
theorem dX7_seen_47 : decode cX7_seen 47 = .ok (.ireturn, 1) := by decide +kernel
theorem dX7_stableNow_0 : decode cX7_stableNow 0 = .ok (.iconst 0, 1) := by decide +kernel
theorem dX7_stableNow_1 : decode cX7_stableNow 1 = .ok (.istore_n 2, 1) := by decide +kernel
theorem dX7_stableNow_2 : decode cX7_stableNow 2 = .ok (.iload_n 2, 1) := by decide +kernel
theorem dX7_stableNow_3 : decode cX7_stableNow 3 = .ok (.aload_n 0, 1) := by decide +kernel
theorem dX7_stableNow_4 : decode cX7_stableNow 4 = .ok (.getfield 26, 3) := by decide +kernel
theorem dX7_stableNow_7 : decode cX7_stableNow 7 = .ok (.iload_n 1, 1) := by decide +kernel
theorem dX7_stableNow_8 : decode cX7_stableNow 8 = .ok (.iaload, 1) := by decide +kernel
theorem dX7_stableNow_9 : decode cX7_stableNow 9 = .ok (.if_icmp .ge 25, 3) := by decide +kernel
theorem dX7_stableNow_12 : decode cX7_stableNow 12 = .ok (.aload_n 0, 1) := by decide +kernel
theorem dX7_stableNow_13 : decode cX7_stableNow 13 = .ok (.aload_n 0, 1) := by decide +kernel
theorem dX7_stableNow_14 : decode cX7_stableNow 14 = .ok (.iload_n 1, 1) := by decide +kernel
theorem dX7_stableNow_15 : decode cX7_stableNow 15 = .ok (.iload_n 2, 1) := by decide +kernel
theorem dX7_stableNow_16 : decode cX7_stableNow 16 = .ok (.invokevirtual 113, 3) := by decide +kernel
theorem dX7_stableNow_19 : decode cX7_stableNow 19 = .ok (.invokevirtual 117, 3) := by decide +kernel
theorem dX7_stableNow_22 : decode cX7_stableNow 22 = .ok (.iconst 2, 1) := by decide +kernel
theorem dX7_stableNow_23 : decode cX7_stableNow 23 = .ok (.if_icmp .ne 5, 3) := by decide +kernel
theorem dX7_stableNow_26 : decode cX7_stableNow 26 = .ok (.iload_n 2, 1) := by decide +kernel
theorem dX7_stableNow_27 : decode cX7_stableNow 27 = .ok (.ireturn, 1) := by decide +kernel
theorem dX7_stableNow_28 : decode cX7_stableNow 28 = .ok (.iinc 2 1, 3) := by decide +kernel
theorem dX7_stableNow_31 : decode cX7_stableNow 31 = .ok (.goto (-29), 3) := by decide +kernel
theorem dX7_stableNow_34 : decode cX7_stableNow 34 = .ok (.aload_n 0, 1) := by decide +kernel
theorem dX7_stableNow_35 : decode cX7_stableNow 35 = .ok (.getfield 26, 3) := by decide +kernel
theorem dX7_stableNow_38 : decode cX7_stableNow 38 = .ok (.iload_n 1, 1) := by decide +kernel
theorem dX7_stableNow_39 : decode cX7_stableNow 39 = .ok (.iaload, 1) := by decide +kernel
theorem dX7_stableNow_40 : decode cX7_stableNow 40 = .ok (.ireturn, 1) := by decide +kernel
theorem dX7_settle_0 : decode cX7_settle 0 = .ok (.iconst 0, 1) := by decide +kernel
theorem dX7_settle_1 : decode cX7_settle 1 = .ok (.istore_n 1, 1) := by decide +kernel
theorem dX7_settle_2 : decode cX7_settle 2 = .ok (.iload_n 1, 1) := by decide +kernel
theorem dX7_settle_3 : decode cX7_settle 3 = .ok (.aload_n 0, 1) := by decide +kernel
theorem dX7_settle_4 : decode cX7_settle 4 = .ok (.getfield 107, 3) := by decide +kernel
theorem dX7_settle_7 : decode cX7_settle 7 = .ok (.if_icmp .ge 120, 3) := by decide +kernel
theorem dX7_settle_10 : decode cX7_settle 10 = .ok (.iconst 0, 1) := by decide +kernel
theorem dX7_settle_11 : decode cX7_settle 11 = .ok (.istore_n 2, 1) := by decide +kernel
theorem dX7_settle_12 : decode cX7_settle 12 = .ok (.iload_n 2, 1) := by decide +kernel
theorem dX7_settle_13 : decode cX7_settle 13 = .ok (.aload_n 0, 1) := by decide +kernel
theorem dX7_settle_14 : decode cX7_settle 14 = .ok (.getfield 16, 3) := by decide +kernel
theorem dX7_settle_17 : decode cX7_settle 17 = .ok (.aload_n 0, 1) := by decide +kernel
theorem dX7_settle_18 : decode cX7_settle 18 = .ok (.getfield 66, 3) := by decide +kernel
theorem dX7_settle_21 : decode cX7_settle 21 = .ok (.iload_n 1, 1) := by decide +kernel
theorem dX7_settle_22 : decode cX7_settle 22 = .ok (.iaload, 1) := by decide +kernel
theorem dX7_settle_23 : decode cX7_settle 23 = .ok (.iaload, 1) := by decide +kernel
theorem dX7_settle_24 : decode cX7_settle 24 = .ok (.if_icmp .ge 97, 3) := by decide +kernel
theorem dX7_settle_27 : decode cX7_settle 27 = .ok (.iload_n 1, 1) := by decide +kernel
theorem dX7_settle_28 : decode cX7_settle 28 = .ok (.iconst 4, 1) := by decide +kernel
theorem dX7_settle_29 : decode cX7_settle 29 = .ok (.imul, 1) := by decide +kernel
theorem dX7_settle_30 : decode cX7_settle 30 = .ok (.iload_n 2, 1) := by decide +kernel
theorem dX7_settle_31 : decode cX7_settle 31 = .ok (.iadd, 1) := by decide +kernel
theorem dX7_settle_32 : decode cX7_settle 32 = .ok (.istore_n 3, 1) := by decide +kernel
theorem dX7_settle_33 : decode cX7_settle 33 = .ok (.aload_n 0, 1) := by decide +kernel
theorem dX7_settle_34 : decode cX7_settle 34 = .ok (.getfield 66, 3) := by decide +kernel
theorem dX7_settle_37 : decode cX7_settle 37 = .ok (.iload_n 1, 1) := by decide +kernel
theorem dX7_settle_38 : decode cX7_settle 38 = .ok (.iaload, 1) := by decide +kernel
theorem dX7_settle_39 : decode cX7_settle 39 = .ok (.iconst 4, 1) := by decide +kernel
theorem dX7_settle_40 : decode cX7_settle 40 = .ok (.imul, 1) := by decide +kernel
theorem dX7_settle_41 : decode cX7_settle 41 = .ok (.iload_n 2, 1) := by decide +kernel
theorem dX7_settle_42 : decode cX7_settle 42 = .ok (.iadd, 1) := by decide +kernel
theorem dX7_settle_43 : decode cX7_settle 43 = .ok (.istore 4, 2) := by decide +kernel
theorem dX7_settle_45 : decode cX7_settle 45 = .ok (.aload_n 0, 1) := by decide +kernel
theorem dX7_settle_46 : decode cX7_settle 46 = .ok (.getfield 69, 3) := by decide +kernel
theorem dX7_settle_49 : decode cX7_settle 49 = .ok (.iload_n 3, 1) := by decide +kernel
theorem dX7_settle_50 : decode cX7_settle 50 = .ok (.iaload, 1) := by decide +kernel
theorem dX7_settle_51 : decode cX7_settle 51 = .ok (.aload_n 0, 1) := by decide +kernel
theorem dX7_settle_52 : decode cX7_settle 52 = .ok (.getfield 26, 3) := by decide +kernel
theorem dX7_settle_55 : decode cX7_settle 55 = .ok (.iload 4, 2) := by decide +kernel
theorem dX7_settle_57 : decode cX7_settle 57 = .ok (.iaload, 1) := by decide +kernel
theorem dX7_settle_58 : decode cX7_settle 58 = .ok (.if_icmp .ge 36, 3) := by decide +kernel
theorem dX7_settle_61 : decode cX7_settle 61 = .ok (.aload_n 0, 1) := by decide +kernel
theorem dX7_settle_62 : decode cX7_settle 62 = .ok (.iload_n 1, 1) := by decide +kernel
theorem dX7_settle_63 : decode cX7_settle 63 = .ok (.aload_n 0, 1) := by decide +kernel
theorem dX7_settle_64 : decode cX7_settle 64 = .ok (.iload 4, 2) := by decide +kernel
theorem dX7_settle_66 : decode cX7_settle 66 = .ok (.aload_n 0, 1) := by decide +kernel
theorem dX7_settle_67 : decode cX7_settle 67 = .ok (.getfield 69, 3) := by decide +kernel
theorem dX7_settle_70 : decode cX7_settle 70 = .ok (.iload_n 3, 1) := by decide +kernel
theorem dX7_settle_71 : decode cX7_settle 71 = .ok (.iaload, 1) := by decide +kernel
theorem dX7_settle_72 : decode cX7_settle 72 = .ok (.invokevirtual 113, 3) := by decide +kernel
theorem dX7_settle_75 : decode cX7_settle 75 = .ok (.invokevirtual 121, 3) := by decide +kernel
theorem dX7_settle_78 : decode cX7_settle 78 = .ok (.ifCond .eq 16, 3) := by decide +kernel
theorem dX7_settle_81 : decode cX7_settle 81 = .ok (.aload_n 0, 1) := by decide +kernel
theorem dX7_settle_82 : decode cX7_settle 82 = .ok (.getfield 69, 3) := by decide +kernel
theorem dX7_settle_85 : decode cX7_settle 85 = .ok (.iload_n 3, 1) := by decide +kernel
theorem dX7_settle_86 : decode cX7_settle 86 = .ok (.dup2, 1) := by decide +kernel
theorem dX7_settle_87 : decode cX7_settle 87 = .ok (.iaload, 1) := by decide +kernel
theorem dX7_settle_88 : decode cX7_settle 88 = .ok (.iconst 1, 1) := by decide +kernel
theorem dX7_settle_89 : decode cX7_settle 89 = .ok (.iadd, 1) := by decide +kernel
theorem dX7_settle_90 : decode cX7_settle 90 = .ok (.iastore, 1) := by decide +kernel
theorem dX7_settle_91 : decode cX7_settle 91 = .ok (.goto (-46), 3) := by decide +kernel
theorem dX7_settle_94 : decode cX7_settle 94 = .ok (.aload_n 0, 1) := by decide +kernel
theorem dX7_settle_95 : decode cX7_settle 95 = .ok (.getfield 72, 3) := by decide +kernel
theorem dX7_settle_98 : decode cX7_settle 98 = .ok (.iload_n 3, 1) := by decide +kernel
theorem dX7_settle_99 : decode cX7_settle 99 = .ok (.aload_n 0, 1) := by decide +kernel
theorem dX7_settle_100 : decode cX7_settle 100 = .ok (.getfield 72, 3) := by decide +kernel
theorem dX7_settle_103 : decode cX7_settle 103 = .ok (.iload_n 3, 1) := by decide +kernel
theorem dX7_settle_104 : decode cX7_settle 104 = .ok (.iaload, 1) := by decide +kernel
theorem dX7_settle_105 : decode cX7_settle 105 = .ok (.aload_n 0, 1) := by decide +kernel
theorem dX7_settle_106 : decode cX7_settle 106 = .ok (.getfield 69, 3) := by decide +kernel
theorem dX7_settle_109 : decode cX7_settle 109 = .ok (.iload_n 3, 1) := by decide +kernel
theorem dX7_settle_110 : decode cX7_settle 110 = .ok (.iaload, 1) := by decide +kernel
theorem dX7_settle_111 : decode cX7_settle 111 = .ok (.invokestatic 125, 3) := by decide +kernel
theorem dX7_settle_114 : decode cX7_settle 114 = .ok (.iastore, 1) := by decide +kernel
theorem dX7_settle_115 : decode cX7_settle 115 = .ok (.iinc 2 1, 3) := by decide +kernel
theorem dX7_settle_118 : decode cX7_settle 118 = .ok (.goto (-106), 3) := by decide +kernel
theorem dX7_settle_121 : decode cX7_settle 121 = .ok (.iinc 1 1, 3) := by decide +kernel
theorem dX7_settle_124 : decode cX7_settle 124 = .ok (.goto (-122), 3) := by decide +kernel
theorem dX7_settle_127 : decode cX7_settle 127 = .ok (.return_, 1) := by decide +kernel
theorem dX7_isBehind_0 : decode cX7_isBehind 0 = .ok (.aload_n 0, 1) := by decide +kernel
theorem dX7_isBehind_1 : decode cX7_isBehind 1 = .ok (.getfield 81, 3) := by decide +kernel
theorem dX7_isBehind_4 : decode cX7_isBehind 4 = .ok (.iload_n 1, 1) := by decide +kernel
theorem dX7_isBehind_5 : decode cX7_isBehind 5 = .ok (.bipush 80, 2) := by decide +kernel
theorem dX7_isBehind_7 : decode cX7_isBehind 7 = .ok (.imul, 1) := by decide +kernel
theorem dX7_isBehind_8 : decode cX7_isBehind 8 = .ok (.iload_n 2, 1) := by decide +kernel
theorem dX7_isBehind_9 : decode cX7_isBehind 9 = .ok (.iadd, 1) := by decide +kernel
theorem dX7_isBehind_10 : decode cX7_isBehind 10 = .ok (.iaload, 1) := by decide +kernel
theorem dX7_isBehind_11 : decode cX7_isBehind 11 = .ok (.istore_n 3, 1) := by decide +kernel
theorem dX7_isBehind_12 : decode cX7_isBehind 12 = .ok (.iload_n 3, 1) := by decide +kernel
theorem dX7_isBehind_13 : decode cX7_isBehind 13 = .ok (.iconst 3, 1) := by decide +kernel
theorem dX7_isBehind_14 : decode cX7_isBehind 14 = .ok (.if_icmp .eq 26, 3) := by decide +kernel
theorem dX7_isBehind_17 : decode cX7_isBehind 17 = .ok (.iload_n 3, 1) := by decide +kernel
theorem dX7_isBehind_18 : decode cX7_isBehind 18 = .ok (.iconst 4, 1) := by decide +kernel
theorem dX7_isBehind_19 : decode cX7_isBehind 19 = .ok (.if_icmp .eq 21, 3) := by decide +kernel
theorem dX7_isBehind_22 : decode cX7_isBehind 22 = .ok (.aload_n 0, 1) := by decide +kernel
theorem dX7_isBehind_23 : decode cX7_isBehind 23 = .ok (.iload_n 2, 1) := by decide +kernel
theorem dX7_isBehind_24 : decode cX7_isBehind 24 = .ok (.invokevirtual 117, 3) := by decide +kernel
theorem dX7_isBehind_27 : decode cX7_isBehind 27 = .ok (.iconst 1, 1) := by decide +kernel
theorem dX7_isBehind_28 : decode cX7_isBehind 28 = .ok (.if_icmp .eq 12, 3) := by decide +kernel
theorem dX7_isBehind_31 : decode cX7_isBehind 31 = .ok (.aload_n 0, 1) := by decide +kernel
theorem dX7_isBehind_32 : decode cX7_isBehind 32 = .ok (.getfield 54, 3) := by decide +kernel
theorem dX7_isBehind_35 : decode cX7_isBehind 35 = .ok (.iload_n 2, 1) := by decide +kernel
theorem dX7_isBehind_36 : decode cX7_isBehind 36 = .ok (.baload, 1) := by decide +kernel
theorem dX7_isBehind_37 : decode cX7_isBehind 37 = .ok (.ifCond .eq 7, 3) := by decide +kernel
theorem dX7_isBehind_40 : decode cX7_isBehind 40 = .ok (.iconst 1, 1) := by decide +kernel
theorem dX7_isBehind_41 : decode cX7_isBehind 41 = .ok (.goto 4, 3) := by decide +kernel
theorem dX7_isBehind_44 : decode cX7_isBehind 44 = .ok (.iconst 0, 1) := by decide +kernel
theorem dX7_isBehind_45 : decode cX7_isBehind 45 = .ok (.ireturn, 1) := by decide +kernel
theorem dX7_forget_0 : decode cX7_forget 0 = .ok (.aload_n 0, 1) := by decide +kernel
theorem dX7_forget_1 : decode cX7_forget 1 = .ok (.getfield 81, 3) := by decide +kernel
theorem dX7_forget_4 : decode cX7_forget 4 = .ok (.iload_n 1, 1) := by decide +kernel
theorem dX7_forget_5 : decode cX7_forget 5 = .ok (.bipush 80, 2) := by decide +kernel
theorem dX7_forget_7 : decode cX7_forget 7 = .ok (.imul, 1) := by decide +kernel
theorem dX7_forget_8 : decode cX7_forget 8 = .ok (.iload_n 2, 1) := by decide +kernel
theorem dX7_forget_9 : decode cX7_forget 9 = .ok (.iadd, 1) := by decide +kernel
theorem dX7_forget_10 : decode cX7_forget 10 = .ok (.iconst 0, 1) := by decide +kernel
theorem dX7_forget_11 : decode cX7_forget 11 = .ok (.iastore, 1) := by decide +kernel
theorem dX7_forget_12 : decode cX7_forget 12 = .ok (.aload_n 0, 1) := by decide +kernel
theorem dX7_forget_13 : decode cX7_forget 13 = .ok (.getfield 84, 3) := by decide +kernel
theorem dX7_forget_16 : decode cX7_forget 16 = .ok (.iload_n 1, 1) := by decide +kernel
theorem dX7_forget_17 : decode cX7_forget 17 = .ok (.bipush 80, 2) := by decide +kernel
theorem dX7_forget_19 : decode cX7_forget 19 = .ok (.imul, 1) := by decide +kernel
theorem dX7_forget_20 : decode cX7_forget 20 = .ok (.iload_n 2, 1) := by decide +kernel
theorem dX7_forget_21 : decode cX7_forget 21 = .ok (.iadd, 1) := by decide +kernel
theorem dX7_forget_22 : decode cX7_forget 22 = .ok (.iconst 0, 1) := by decide +kernel
theorem dX7_forget_23 : decode cX7_forget 23 = .ok (.iastore, 1) := by decide +kernel
theorem dX7_forget_24 : decode cX7_forget 24 = .ok (.return_, 1) := by decide +kernel
theorem dX7_drop_0 : decode cX7_drop 0 = .ok (.aload_n 0, 1) := by decide +kernel
theorem dX7_drop_1 : decode cX7_drop 1 = .ok (.getfield 54, 3) := by decide +kernel
theorem dX7_drop_4 : decode cX7_drop 4 = .ok (.iload_n 1, 1) := by decide +kernel
theorem dX7_drop_5 : decode cX7_drop 5 = .ok (.iconst 1, 1) := by decide +kernel
theorem dX7_drop_6 : decode cX7_drop 6 = .ok (.bastore, 1) := by decide +kernel
theorem dX7_drop_7 : decode cX7_drop 7 = .ok (.iconst 0, 1) := by decide +kernel
theorem dX7_drop_8 : decode cX7_drop 8 = .ok (.istore_n 2, 1) := by decide +kernel
theorem dX7_drop_9 : decode cX7_drop 9 = .ok (.iload_n 2, 1) := by decide +kernel
theorem dX7_drop_10 : decode cX7_drop 10 = .ok (.aload_n 0, 1) := by decide +kernel
theorem dX7_drop_11 : decode cX7_drop 11 = .ok (.getfield 107, 3) := by decide +kernel
theorem dX7_drop_14 : decode cX7_drop 14 = .ok (.if_icmp .ge 45, 3) := by decide +kernel
theorem dX7_drop_17 : decode cX7_drop 17 = .ok (.aload_n 0, 1) := by decide +kernel
theorem dX7_drop_18 : decode cX7_drop 18 = .ok (.getfield 81, 3) := by decide +kernel
theorem dX7_drop_21 : decode cX7_drop 21 = .ok (.iload_n 2, 1) := by decide +kernel
theorem dX7_drop_22 : decode cX7_drop 22 = .ok (.bipush 80, 2) := by decide +kernel
theorem dX7_drop_24 : decode cX7_drop 24 = .ok (.imul, 1) := by decide +kernel
theorem dX7_drop_25 : decode cX7_drop 25 = .ok (.iload_n 1, 1) := by decide +kernel
theorem dX7_drop_26 : decode cX7_drop 26 = .ok (.iadd, 1) := by decide +kernel
theorem dX7_drop_27 : decode cX7_drop 27 = .ok (.iaload, 1) := by decide +kernel
theorem dX7_drop_28 : decode cX7_drop 28 = .ok (.iconst 1, 1) := by decide +kernel
theorem dX7_drop_29 : decode cX7_drop 29 = .ok (.if_icmp .eq 18, 3) := by decide +kernel
theorem dX7_drop_32 : decode cX7_drop 32 = .ok (.aload_n 0, 1) := by decide +kernel
theorem dX7_drop_33 : decode cX7_drop 33 = .ok (.getfield 81, 3) := by decide +kernel
theorem dX7_drop_36 : decode cX7_drop 36 = .ok (.iload_n 2, 1) := by decide +kernel
theorem dX7_drop_37 : decode cX7_drop 37 = .ok (.bipush 80, 2) := by decide +kernel
theorem dX7_drop_39 : decode cX7_drop 39 = .ok (.imul, 1) := by decide +kernel
theorem dX7_drop_40 : decode cX7_drop 40 = .ok (.iload_n 1, 1) := by decide +kernel
theorem dX7_drop_41 : decode cX7_drop 41 = .ok (.iadd, 1) := by decide +kernel
theorem dX7_drop_42 : decode cX7_drop 42 = .ok (.iaload, 1) := by decide +kernel
theorem dX7_drop_43 : decode cX7_drop 43 = .ok (.iconst 2, 1) := by decide +kernel
theorem dX7_drop_44 : decode cX7_drop 44 = .ok (.if_icmp .ne 9, 3) := by decide +kernel
theorem dX7_drop_47 : decode cX7_drop 47 = .ok (.aload_n 0, 1) := by decide +kernel
theorem dX7_drop_48 : decode cX7_drop 48 = .ok (.iload_n 2, 1) := by decide +kernel
theorem dX7_drop_49 : decode cX7_drop 49 = .ok (.iload_n 1, 1) := by decide +kernel
theorem dX7_drop_50 : decode cX7_drop 50 = .ok (.invokevirtual 130, 3) := by decide +kernel
theorem dX7_drop_53 : decode cX7_drop 53 = .ok (.iinc 2 1, 3) := by decide +kernel
theorem dX7_drop_56 : decode cX7_drop 56 = .ok (.goto (-47), 3) := by decide +kernel
theorem dX7_drop_59 : decode cX7_drop 59 = .ok (.return_, 1) := by decide +kernel
theorem dX7_topic_0 : decode cX7_topic 0 = .ok (.aload_n 0, 1) := by decide +kernel
theorem dX7_topic_1 : decode cX7_topic 1 = .ok (.iconst 0, 1) := by decide +kernel
theorem dX7_topic_2 : decode cX7_topic 2 = .ok (.putfield 93, 3) := by decide +kernel
theorem dX7_topic_5 : decode cX7_topic 5 = .ok (.iload_n 1, 1) := by decide +kernel
theorem dX7_topic_6 : decode cX7_topic 6 = .ok (.iconst 1, 1) := by decide +kernel
theorem dX7_topic_7 : decode cX7_topic 7 = .ok (.iconst 4, 1) := by decide +kernel
theorem dX7_topic_8 : decode cX7_topic 8 = .ok (.invokestatic 99, 3) := by decide +kernel
theorem dX7_topic_11 : decode cX7_topic 11 = .ok (.ifCond .ne 9, 3) := by decide +kernel
theorem dX7_topic_14 : decode cX7_topic 14 = .ok (.aload_n 0, 1) := by decide +kernel
theorem dX7_topic_15 : decode cX7_topic 15 = .ok (.iconst 1, 1) := by decide +kernel
theorem dX7_topic_16 : decode cX7_topic 16 = .ok (.invokevirtual 134, 3) := by decide +kernel
theorem dX7_topic_19 : decode cX7_topic 19 = .ok (.ireturn, 1) := by decide +kernel
theorem dX7_topic_20 : decode cX7_topic 20 = .ok (.aload_n 0, 1) := by decide +kernel
theorem dX7_topic_21 : decode cX7_topic 21 = .ok (.getfield 96, 3) := by decide +kernel
theorem dX7_topic_24 : decode cX7_topic 24 = .ok (.iconst 4, 1) := by decide +kernel
theorem dX7_topic_25 : decode cX7_topic 25 = .ok (.if_icmp .ne 9, 3) := by decide +kernel
theorem dX7_topic_28 : decode cX7_topic 28 = .ok (.aload_n 0, 1) := by decide +kernel
theorem dX7_topic_29 : decode cX7_topic 29 = .ok (.iconst 2, 1) := by decide +kernel
theorem dX7_topic_30 : decode cX7_topic 30 = .ok (.invokevirtual 134, 3) := by decide +kernel
theorem dX7_topic_33 : decode cX7_topic 33 = .ok (.ireturn, 1) := by decide +kernel
theorem dX7_topic_34 : decode cX7_topic 34 = .ok (.aload_n 0, 1) := by decide +kernel
theorem dX7_topic_35 : decode cX7_topic 35 = .ok (.getfield 16, 3) := by decide +kernel
theorem dX7_topic_38 : decode cX7_topic 38 = .ok (.aload_n 0, 1) := by decide +kernel
theorem dX7_topic_39 : decode cX7_topic 39 = .ok (.getfield 96, 3) := by decide +kernel
theorem dX7_topic_42 : decode cX7_topic 42 = .ok (.iload_n 1, 1) := by decide +kernel
theorem dX7_topic_43 : decode cX7_topic 43 = .ok (.iastore, 1) := by decide +kernel
theorem dX7_topic_44 : decode cX7_topic 44 = .ok (.aload_n 0, 1) := by decide +kernel
theorem dX7_topic_45 : decode cX7_topic 45 = .ok (.getfield 32, 3) := by decide +kernel
theorem dX7_topic_48 : decode cX7_topic 48 = .ok (.aload_n 0, 1) := by decide +kernel
theorem dX7_topic_49 : decode cX7_topic 49 = .ok (.getfield 96, 3) := by decide +kernel
theorem dX7_topic_52 : decode cX7_topic 52 = .ok (.iload_n 2, 1) := by decide +kernel
theorem dX7_topic_53 : decode cX7_topic 53 = .ok (.bastore, 1) := by decide +kernel
theorem dX7_topic_54 : decode cX7_topic 54 = .ok (.aload_n 0, 1) := by decide +kernel
theorem dX7_topic_55 : decode cX7_topic 55 = .ok (.dup, 1) := by decide +kernel
theorem dX7_topic_56 : decode cX7_topic 56 = .ok (.getfield 96, 3) := by decide +kernel
theorem dX7_topic_59 : decode cX7_topic 59 = .ok (.dup_x1, 1) := by decide +kernel
theorem dX7_topic_60 : decode cX7_topic 60 = .ok (.iconst 1, 1) := by decide +kernel
theorem dX7_topic_61 : decode cX7_topic 61 = .ok (.iadd, 1) := by decide +kernel
theorem dX7_topic_62 : decode cX7_topic 62 = .ok (.putfield 96, 3) := by decide +kernel
theorem dX7_topic_65 : decode cX7_topic 65 = .ok (.ireturn, 1) := by decide +kernel
theorem dX7_send_0 : decode cX7_send 0 = .ok (.aload_n 0, 1) := by decide +kernel
theorem dX7_send_1 : decode cX7_send 1 = .ok (.iconst 0, 1) := by decide +kernel
theorem dX7_send_2 : decode cX7_send 2 = .ok (.putfield 93, 3) := by decide +kernel
theorem dX7_send_5 : decode cX7_send 5 = .ok (.aload_n 0, 1) := by decide +kernel
theorem dX7_send_6 : decode cX7_send 6 = .ok (.iload_n 1, 1) := by decide +kernel
theorem dX7_send_7 : decode cX7_send 7 = .ok (.invokevirtual 103, 3) := by decide +kernel
theorem dX7_send_10 : decode cX7_send 10 = .ok (.ifCond .eq 10, 3) := by decide +kernel
theorem dX7_send_13 : decode cX7_send 13 = .ok (.iload_n 2, 1) := by decide +kernel
theorem dX7_send_14 : decode cX7_send 14 = .ok (.invokestatic 137, 3) := by decide +kernel
theorem dX7_send_17 : decode cX7_send 17 = .ok (.ifCond .ne 9, 3) := by decide +kernel
theorem dX7_send_20 : decode cX7_send 20 = .ok (.aload_n 0, 1) := by decide +kernel
theorem dX7_send_21 : decode cX7_send 21 = .ok (.iconst 1, 1) := by decide +kernel
theorem dX7_send_22 : decode cX7_send 22 = .ok (.invokevirtual 134, 3) := by decide +kernel
theorem dX7_send_25 : decode cX7_send 25 = .ok (.ireturn, 1) := by decide +kernel
theorem dX7_send_26 : decode cX7_send 26 = .ok (.iload_n 3, 1) := by decide +kernel
theorem dX7_send_27 : decode cX7_send 27 = .ok (.ifCond .lt 26, 3) := by decide +kernel
theorem dX7_send_30 : decode cX7_send 30 = .ok (.iload 4, 2) := by decide +kernel
theorem dX7_send_32 : decode cX7_send 32 = .ok (.iconst (-1), 1) := by decide +kernel
theorem dX7_send_33 : decode cX7_send 33 = .ok (.bipush 9, 2) := by decide +kernel
theorem dX7_send_35 : decode cX7_send 35 = .ok (.invokestatic 99, 3) := by decide +kernel
theorem dX7_send_38 : decode cX7_send 38 = .ok (.ifCond .eq 15, 3) := by decide +kernel
theorem dX7_send_41 : decode cX7_send 41 = .ok (.iload 5, 2) := by decide +kernel
theorem dX7_send_43 : decode cX7_send 43 = .ok (.iconst 0, 1) := by decide +kernel
theorem dX7_send_44 : decode cX7_send 44 = .ok (.sipush 999, 3) := by decide +kernel
theorem dX7_send_47 : decode cX7_send 47 = .ok (.invokestatic 99, 3) := by decide +kernel
theorem dX7_send_50 : decode cX7_send 50 = .ok (.ifCond .ne 9, 3) := by decide +kernel
theorem dX7_send_53 : decode cX7_send 53 = .ok (.aload_n 0, 1) := by decide +kernel
theorem dX7_send_54 : decode cX7_send 54 = .ok (.iconst 2, 1) := by decide +kernel
theorem dX7_send_55 : decode cX7_send 55 = .ok (.invokevirtual 134, 3) := by decide +kernel
theorem dX7_send_58 : decode cX7_send 58 = .ok (.ireturn, 1) := by decide +kernel
theorem dX7_send_59 : decode cX7_send 59 = .ok (.aload_n 0, 1) := by decide +kernel
theorem dX7_send_60 : decode cX7_send 60 = .ok (.getfield 29, 3) := by decide +kernel
theorem dX7_send_63 : decode cX7_send 63 = .ok (.iload_n 1, 1) := by decide +kernel
theorem dX7_send_64 : decode cX7_send 64 = .ok (.iconst 4, 1) := by decide +kernel
theorem dX7_send_65 : decode cX7_send 65 = .ok (.imul, 1) := by decide +kernel
theorem dX7_send_66 : decode cX7_send 66 = .ok (.iload_n 2, 1) := by decide +kernel
theorem dX7_send_67 : decode cX7_send 67 = .ok (.iadd, 1) := by decide +kernel
theorem dX7_send_68 : decode cX7_send 68 = .ok (.iaload, 1) := by decide +kernel
theorem dX7_send_69 : decode cX7_send 69 = .ok (.istore 6, 2) := by decide +kernel
theorem dX7_send_71 : decode cX7_send 71 = .ok (.iload_n 3, 1) := by decide +kernel
theorem dX7_send_72 : decode cX7_send 72 = .ok (.iload 6, 2) := by decide +kernel
theorem dX7_send_74 : decode cX7_send 74 = .ok (.if_icmp .ge 6, 3) := by decide +kernel
theorem dX7_send_77 : decode cX7_send 77 = .ok (.bipush (-2), 2) := by decide +kernel
theorem dX7_send_79 : decode cX7_send 79 = .ok (.ireturn, 1) := by decide +kernel
theorem dX7_send_80 : decode cX7_send 80 = .ok (.iload_n 3, 1) := by decide +kernel
theorem dX7_send_81 : decode cX7_send 81 = .ok (.iload 6, 2) := by decide +kernel
theorem dX7_send_83 : decode cX7_send 83 = .ok (.if_icmp .gt 12, 3) := by decide +kernel
theorem dX7_send_86 : decode cX7_send 86 = .ok (.aload_n 0, 1) := by decide +kernel
theorem dX7_send_87 : decode cX7_send 87 = .ok (.getfield 140, 3) := by decide +kernel
theorem dX7_send_90 : decode cX7_send 90 = .ok (.bipush 80, 2) := by decide +kernel
theorem dX7_send_92 : decode cX7_send 92 = .ok (.if_icmp .ne 9, 3) := by decide +kernel
theorem dX7_send_95 : decode cX7_send 95 = .ok (.aload_n 0, 1) := by decide +kernel
theorem dX7_send_96 : decode cX7_send 96 = .ok (.iconst 3, 1) := by decide +kernel
theorem dX7_send_97 : decode cX7_send 97 = .ok (.invokevirtual 134, 3) := by decide +kernel
theorem dX7_send_100 : decode cX7_send 100 = .ok (.ireturn, 1) := by decide +kernel
theorem dX7_send_101 : decode cX7_send 101 = .ok (.aload_n 0, 1) := by decide +kernel
theorem dX7_send_102 : decode cX7_send 102 = .ok (.getfield 29, 3) := by decide +kernel
theorem dX7_send_105 : decode cX7_send 105 = .ok (.iload_n 1, 1) := by decide +kernel
theorem dX7_send_106 : decode cX7_send 106 = .ok (.iconst 4, 1) := by decide +kernel
theorem dX7_send_107 : decode cX7_send 107 = .ok (.imul, 1) := by decide +kernel
theorem dX7_send_108 : decode cX7_send 108 = .ok (.iload_n 2, 1) := by decide +kernel
theorem dX7_send_109 : decode cX7_send 109 = .ok (.iadd, 1) := by decide +kernel
theorem dX7_send_110 : decode cX7_send 110 = .ok (.dup2, 1) := by decide +kernel
theorem dX7_send_111 : decode cX7_send 111 = .ok (.iaload, 1) := by decide +kernel
theorem dX7_send_112 : decode cX7_send 112 = .ok (.iconst 1, 1) := by decide +kernel
theorem dX7_send_113 : decode cX7_send 113 = .ok (.iadd, 1) := by decide +kernel
theorem dX7_send_114 : decode cX7_send 114 = .ok (.iastore, 1) := by decide +kernel
theorem dX7_send_115 : decode cX7_send 115 = .ok (.iconst 0, 1) := by decide +kernel
theorem dX7_send_116 : decode cX7_send 116 = .ok (.istore 7, 2) := by decide +kernel
theorem dX7_send_118 : decode cX7_send 118 = .ok (.iload 4, 2) := by decide +kernel
theorem dX7_send_120 : decode cX7_send 120 = .ok (.iconst (-1), 1) := by decide +kernel
theorem dX7_send_121 : decode cX7_send 121 = .ok (.if_icmp .ne 55, 3) := by decide +kernel
theorem dX7_send_124 : decode cX7_send 124 = .ok (.iconst 1, 1) := by decide +kernel
theorem dX7_send_125 : decode cX7_send 125 = .ok (.istore 8, 2) := by decide +kernel
theorem dX7_send_127 : decode cX7_send 127 = .ok (.iload 8, 2) := by decide +kernel
theorem dX7_send_129 : decode cX7_send 129 = .ok (.aload_n 0, 1) := by decide +kernel
theorem dX7_send_130 : decode cX7_send 130 = .ok (.getfield 16, 3) := by decide +kernel
theorem dX7_send_133 : decode cX7_send 133 = .ok (.iload_n 1, 1) := by decide +kernel
theorem dX7_send_134 : decode cX7_send 134 = .ok (.iaload, 1) := by decide +kernel
theorem dX7_send_135 : decode cX7_send 135 = .ok (.if_icmp .ge 38, 3) := by decide +kernel
theorem dX7_send_138 : decode cX7_send 138 = .ok (.aload_n 0, 1) := by decide +kernel
theorem dX7_send_139 : decode cX7_send 139 = .ok (.getfield 26, 3) := by decide +kernel
theorem dX7_send_142 : decode cX7_send 142 = .ok (.iload_n 1, 1) := by decide +kernel
theorem dX7_send_143 : decode cX7_send 143 = .ok (.iconst 4, 1) := by decide +kernel
theorem dX7_send_144 : decode cX7_send 144 = .ok (.imul, 1) := by decide +kernel
theorem dX7_send_145 : decode cX7_send 145 = .ok (.iload 8, 2) := by decide +kernel
theorem dX7_send_147 : decode cX7_send 147 = .ok (.iadd, 1) := by decide +kernel
theorem dX7_send_148 : decode cX7_send 148 = .ok (.iaload, 1) := by decide +kernel
theorem dX7_send_149 : decode cX7_send 149 = .ok (.aload_n 0, 1) := by decide +kernel
theorem dX7_send_150 : decode cX7_send 150 = .ok (.getfield 26, 3) := by decide +kernel
theorem dX7_send_153 : decode cX7_send 153 = .ok (.iload_n 1, 1) := by decide +kernel
theorem dX7_send_154 : decode cX7_send 154 = .ok (.iconst 4, 1) := by decide +kernel
theorem dX7_send_155 : decode cX7_send 155 = .ok (.imul, 1) := by decide +kernel
theorem dX7_send_156 : decode cX7_send 156 = .ok (.iload 7, 2) := by decide +kernel
theorem dX7_send_158 : decode cX7_send 158 = .ok (.iadd, 1) := by decide +kernel
theorem dX7_send_159 : decode cX7_send 159 = .ok (.iaload, 1) := by decide +kernel
theorem dX7_send_160 : decode cX7_send 160 = .ok (.if_icmp .ge 7, 3) := by decide +kernel
theorem dX7_send_163 : decode cX7_send 163 = .ok (.iload 8, 2) := by decide +kernel
theorem dX7_send_165 : decode cX7_send 165 = .ok (.istore 7, 2) := by decide +kernel
theorem dX7_send_167 : decode cX7_send 167 = .ok (.iinc 8 1, 3) := by decide +kernel
theorem dX7_send_170 : decode cX7_send 170 = .ok (.goto (-43), 3) := by decide +kernel
theorem dX7_send_173 : decode cX7_send 173 = .ok (.goto 14, 3) := by decide +kernel
theorem dX7_send_176 : decode cX7_send 176 = .ok (.iload 4, 2) := by decide +kernel
theorem dX7_send_178 : decode cX7_send 178 = .ok (.aload_n 0, 1) := by decide +kernel
theorem dX7_send_179 : decode cX7_send 179 = .ok (.getfield 16, 3) := by decide +kernel
theorem dX7_send_182 : decode cX7_send 182 = .ok (.iload_n 1, 1) := by decide +kernel
theorem dX7_send_183 : decode cX7_send 183 = .ok (.iaload, 1) := by decide +kernel
theorem dX7_send_184 : decode cX7_send 184 = .ok (.irem, 1) := by decide +kernel
theorem dX7_send_185 : decode cX7_send 185 = .ok (.istore 7, 2) := by decide +kernel
theorem dX7_send_187 : decode cX7_send 187 = .ok (.iload_n 1, 1) := by decide +kernel
theorem dX7_send_188 : decode cX7_send 188 = .ok (.iconst 4, 1) := by decide +kernel
theorem dX7_send_189 : decode cX7_send 189 = .ok (.imul, 1) := by decide +kernel
theorem dX7_send_190 : decode cX7_send 190 = .ok (.iload 7, 2) := by decide +kernel
theorem dX7_send_192 : decode cX7_send 192 = .ok (.iadd, 1) := by decide +kernel
theorem dX7_send_193 : decode cX7_send 193 = .ok (.istore 8, 2) := by decide +kernel
theorem dX7_send_195 : decode cX7_send 195 = .ok (.aload_n 0, 1) := by decide +kernel
theorem dX7_send_196 : decode cX7_send 196 = .ok (.getfield 36, 3) := by decide +kernel
theorem dX7_send_199 : decode cX7_send 199 = .ok (.aload_n 0, 1) := by decide +kernel
theorem dX7_send_200 : decode cX7_send 200 = .ok (.getfield 140, 3) := by decide +kernel
theorem dX7_send_203 : decode cX7_send 203 = .ok (.iload 8, 2) := by decide +kernel
theorem dX7_send_205 : decode cX7_send 205 = .ok (.iastore, 1) := by decide +kernel
theorem dX7_send_206 : decode cX7_send 206 = .ok (.aload_n 0, 1) := by decide +kernel
theorem dX7_send_207 : decode cX7_send 207 = .ok (.getfield 39, 3) := by decide +kernel
theorem dX7_send_210 : decode cX7_send 210 = .ok (.aload_n 0, 1) := by decide +kernel
theorem dX7_send_211 : decode cX7_send 211 = .ok (.getfield 140, 3) := by decide +kernel
theorem dX7_send_214 : decode cX7_send 214 = .ok (.aload_n 0, 1) := by decide +kernel
theorem dX7_send_215 : decode cX7_send 215 = .ok (.getfield 26, 3) := by decide +kernel
theorem dX7_send_218 : decode cX7_send 218 = .ok (.iload 8, 2) := by decide +kernel
theorem dX7_send_220 : decode cX7_send 220 = .ok (.iaload, 1) := by decide +kernel
theorem dX7_send_221 : decode cX7_send 221 = .ok (.iastore, 1) := by decide +kernel
theorem dX7_send_222 : decode cX7_send 222 = .ok (.aload_n 0, 1) := by decide +kernel
theorem dX7_send_223 : decode cX7_send 223 = .ok (.getfield 42, 3) := by decide +kernel
theorem dX7_send_226 : decode cX7_send 226 = .ok (.aload_n 0, 1) := by decide +kernel
theorem dX7_send_227 : decode cX7_send 227 = .ok (.getfield 140, 3) := by decide +kernel
theorem dX7_send_230 : decode cX7_send 230 = .ok (.iload 4, 2) := by decide +kernel
theorem dX7_send_232 : decode cX7_send 232 = .ok (.iastore, 1) := by decide +kernel
theorem dX7_send_233 : decode cX7_send 233 = .ok (.aload_n 0, 1) := by decide +kernel
theorem dX7_send_234 : decode cX7_send 234 = .ok (.getfield 45, 3) := by decide +kernel
theorem dX7_send_237 : decode cX7_send 237 = .ok (.aload_n 0, 1) := by decide +kernel
theorem dX7_send_238 : decode cX7_send 238 = .ok (.getfield 140, 3) := by decide +kernel
theorem dX7_send_241 : decode cX7_send 241 = .ok (.iload 5, 2) := by decide +kernel
theorem dX7_send_243 : decode cX7_send 243 = .ok (.iastore, 1) := by decide +kernel
theorem dX7_send_244 : decode cX7_send 244 = .ok (.aload_n 0, 1) := by decide +kernel
theorem dX7_send_245 : decode cX7_send 245 = .ok (.getfield 48, 3) := by decide +kernel
theorem dX7_send_248 : decode cX7_send 248 = .ok (.aload_n 0, 1) := by decide +kernel
theorem dX7_send_249 : decode cX7_send 249 = .ok (.getfield 140, 3) := by decide +kernel
theorem dX7_send_252 : decode cX7_send 252 = .ok (.aload_n 0, 1) := by decide +kernel
theorem dX7_send_253 : decode cX7_send 253 = .ok (.getfield 143, 3) := by decide +kernel
theorem dX7_send_256 : decode cX7_send 256 = .ok (.iastore, 1) := by decide +kernel
theorem dX7_send_257 : decode cX7_send 257 = .ok (.aload_n 0, 1) := by decide +kernel
theorem dX7_send_258 : decode cX7_send 258 = .ok (.getfield 51, 3) := by decide +kernel
theorem dX7_send_261 : decode cX7_send 261 = .ok (.aload_n 0, 1) := by decide +kernel
theorem dX7_send_262 : decode cX7_send 262 = .ok (.getfield 140, 3) := by decide +kernel
theorem dX7_send_265 : decode cX7_send 265 = .ok (.aload_n 0, 1) := by decide +kernel
theorem dX7_send_266 : decode cX7_send 266 = .ok (.getfield 63, 3) := by decide +kernel
theorem dX7_send_269 : decode cX7_send 269 = .ok (.iload_n 2, 1) := by decide +kernel
theorem dX7_send_270 : decode cX7_send 270 = .ok (.iaload, 1) := by decide +kernel
theorem dX7_send_271 : decode cX7_send 271 = .ok (.iastore, 1) := by decide +kernel
theorem dX7_send_272 : decode cX7_send 272 = .ok (.aload_n 0, 1) := by decide +kernel
theorem dX7_send_273 : decode cX7_send 273 = .ok (.getfield 57, 3) := by decide +kernel
theorem dX7_send_276 : decode cX7_send 276 = .ok (.iload 8, 2) := by decide +kernel
theorem dX7_send_278 : decode cX7_send 278 = .ok (.bipush 80, 2) := by decide +kernel
theorem dX7_send_280 : decode cX7_send 280 = .ok (.imul, 1) := by decide +kernel
theorem dX7_send_281 : decode cX7_send 281 = .ok (.aload_n 0, 1) := by decide +kernel
theorem dX7_send_282 : decode cX7_send 282 = .ok (.getfield 26, 3) := by decide +kernel
theorem dX7_send_285 : decode cX7_send 285 = .ok (.iload 8, 2) := by decide +kernel
theorem dX7_send_287 : decode cX7_send 287 = .ok (.iaload, 1) := by decide +kernel
theorem dX7_send_288 : decode cX7_send 288 = .ok (.iadd, 1) := by decide +kernel
theorem dX7_send_289 : decode cX7_send 289 = .ok (.aload_n 0, 1) := by decide +kernel
theorem dX7_send_290 : decode cX7_send 290 = .ok (.dup, 1) := by decide +kernel
theorem dX7_send_291 : decode cX7_send 291 = .ok (.getfield 140, 3) := by decide +kernel
theorem dX7_send_294 : decode cX7_send 294 = .ok (.dup_x1, 1) := by decide +kernel
theorem dX7_send_295 : decode cX7_send 295 = .ok (.iconst 1, 1) := by decide +kernel
theorem dX7_send_296 : decode cX7_send 296 = .ok (.iadd, 1) := by decide +kernel
theorem dX7_send_297 : decode cX7_send 297 = .ok (.putfield 140, 3) := by decide +kernel
theorem dX7_send_300 : decode cX7_send 300 = .ok (.iastore, 1) := by decide +kernel
theorem dX7_send_301 : decode cX7_send 301 = .ok (.aload_n 0, 1) := by decide +kernel
theorem dX7_send_302 : decode cX7_send 302 = .ok (.getfield 26, 3) := by decide +kernel
theorem dX7_send_305 : decode cX7_send 305 = .ok (.iload 8, 2) := by decide +kernel
theorem dX7_send_307 : decode cX7_send 307 = .ok (.dup2, 1) := by decide +kernel
theorem dX7_send_308 : decode cX7_send 308 = .ok (.iaload, 1) := by decide +kernel
theorem dX7_send_309 : decode cX7_send 309 = .ok (.iconst 1, 1) := by decide +kernel
theorem dX7_send_310 : decode cX7_send 310 = .ok (.iadd, 1) := by decide +kernel
theorem dX7_send_311 : decode cX7_send 311 = .ok (.iastore, 1) := by decide +kernel
theorem dX7_send_312 : decode cX7_send 312 = .ok (.aload_n 0, 1) := by decide +kernel
theorem dX7_send_313 : decode cX7_send 313 = .ok (.invokevirtual 146, 3) := by decide +kernel
theorem dX7_send_316 : decode cX7_send 316 = .ok (.aload_n 0, 1) := by decide +kernel
theorem dX7_send_317 : decode cX7_send 317 = .ok (.getfield 26, 3) := by decide +kernel
theorem dX7_send_320 : decode cX7_send 320 = .ok (.iload 8, 2) := by decide +kernel
theorem dX7_send_322 : decode cX7_send 322 = .ok (.iaload, 1) := by decide +kernel
theorem dX7_send_323 : decode cX7_send 323 = .ok (.iconst 1, 1) := by decide +kernel
theorem dX7_send_324 : decode cX7_send 324 = .ok (.isub, 1) := by decide +kernel
theorem dX7_send_325 : decode cX7_send 325 = .ok (.ireturn, 1) := by decide +kernel
theorem dX7_begin_0 : decode cX7_begin 0 = .ok (.aload_n 0, 1) := by decide +kernel
theorem dX7_begin_1 : decode cX7_begin 1 = .ok (.iconst 0, 1) := by decide +kernel
theorem dX7_begin_2 : decode cX7_begin 2 = .ok (.putfield 93, 3) := by decide +kernel
theorem dX7_begin_5 : decode cX7_begin 5 = .ok (.iload_n 1, 1) := by decide +kernel
theorem dX7_begin_6 : decode cX7_begin 6 = .ok (.invokestatic 137, 3) := by decide +kernel
theorem dX7_begin_9 : decode cX7_begin 9 = .ok (.ifCond .ne 9, 3) := by decide +kernel
theorem dX7_begin_12 : decode cX7_begin 12 = .ok (.aload_n 0, 1) := by decide +kernel
theorem dX7_begin_13 : decode cX7_begin 13 = .ok (.iconst 1, 1) := by decide +kernel
theorem dX7_begin_14 : decode cX7_begin 14 = .ok (.invokevirtual 134, 3) := by decide +kernel
theorem dX7_begin_17 : decode cX7_begin 17 = .ok (.ireturn, 1) := by decide +kernel
theorem dX7_begin_18 : decode cX7_begin 18 = .ok (.aload_n 0, 1) := by decide +kernel
theorem dX7_begin_19 : decode cX7_begin 19 = .ok (.getfield 63, 3) := by decide +kernel
theorem dX7_begin_22 : decode cX7_begin 22 = .ok (.iload_n 1, 1) := by decide +kernel
theorem dX7_begin_23 : decode cX7_begin 23 = .ok (.iaload, 1) := by decide +kernel
theorem dX7_begin_24 : decode cX7_begin 24 = .ok (.iconst (-1), 1) := by decide +kernel
theorem dX7_begin_25 : decode cX7_begin 25 = .ok (.if_icmp .eq 9, 3) := by decide +kernel
theorem dX7_begin_28 : decode cX7_begin 28 = .ok (.aload_n 0, 1) := by decide +kernel
theorem dX7_begin_29 : decode cX7_begin 29 = .ok (.iconst 2, 1) := by decide +kernel
theorem dX7_begin_30 : decode cX7_begin 30 = .ok (.invokevirtual 134, 3) := by decide +kernel
theorem dX7_begin_33 : decode cX7_begin 33 = .ok (.ireturn, 1) := by decide +kernel
theorem dX7_begin_34 : decode cX7_begin 34 = .ok (.aload_n 0, 1) := by decide +kernel
theorem dX7_begin_35 : decode cX7_begin 35 = .ok (.getfield 149, 3) := by decide +kernel
theorem dX7_begin_38 : decode cX7_begin 38 = .ok (.aload_n 0, 1) := by decide +kernel
theorem dX7_begin_39 : decode cX7_begin 39 = .ok (.getfield 60, 3) := by decide +kernel
theorem dX7_begin_42 : decode cX7_begin 42 = .ok (.arraylength, 1) := by decide +kernel
theorem dX7_begin_43 : decode cX7_begin 43 = .ok (.if_icmp .ne 31, 3) := by decide +kernel
theorem dX7_begin_46 : decode cX7_begin 46 = .ok (.iconst 2, 1) := by decide +kernel
theorem dX7_begin_47 : decode cX7_begin 47 = .ok (.aload_n 0, 1) := by decide +kernel
theorem dX7_begin_48 : decode cX7_begin 48 = .ok (.getfield 149, 3) := by decide +kernel
theorem dX7_begin_51 : decode cX7_begin 51 = .ok (.imul, 1) := by decide +kernel
theorem dX7_begin_52 : decode cX7_begin 52 = .ok (.newarray .int, 2) := by decide +kernel
theorem dX7_begin_54 : decode cX7_begin 54 = .ok (.astore_n 2, 1) := by decide +kernel
theorem dX7_begin_55 : decode cX7_begin 55 = .ok (.aload_n 0, 1) := by decide +kernel
theorem dX7_begin_56 : decode cX7_begin 56 = .ok (.getfield 60, 3) := by decide +kernel
theorem dX7_begin_59 : decode cX7_begin 59 = .ok (.iconst 0, 1) := by decide +kernel
theorem dX7_begin_60 : decode cX7_begin 60 = .ok (.aload_n 2, 1) := by decide +kernel
theorem dX7_begin_61 : decode cX7_begin 61 = .ok (.iconst 0, 1) := by decide +kernel
theorem dX7_begin_62 : decode cX7_begin 62 = .ok (.aload_n 0, 1) := by decide +kernel
theorem dX7_begin_63 : decode cX7_begin 63 = .ok (.getfield 149, 3) := by decide +kernel
theorem dX7_begin_66 : decode cX7_begin 66 = .ok (.invokestatic 152, 3) := by decide +kernel
theorem dX7_begin_69 : decode cX7_begin 69 = .ok (.aload_n 0, 1) := by decide +kernel
theorem dX7_begin_70 : decode cX7_begin 70 = .ok (.aload_n 2, 1) := by decide +kernel
theorem dX7_begin_71 : decode cX7_begin 71 = .ok (.putfield 60, 3) := by decide +kernel
theorem dX7_begin_74 : decode cX7_begin 74 = .ok (.aload_n 0, 1) := by decide +kernel
theorem dX7_begin_75 : decode cX7_begin 75 = .ok (.getfield 63, 3) := by decide +kernel
theorem dX7_begin_78 : decode cX7_begin 78 = .ok (.iload_n 1, 1) := by decide +kernel
theorem dX7_begin_79 : decode cX7_begin 79 = .ok (.aload_n 0, 1) := by decide +kernel
theorem dX7_begin_80 : decode cX7_begin 80 = .ok (.getfield 149, 3) := by decide +kernel
theorem dX7_begin_83 : decode cX7_begin 83 = .ok (.iastore, 1) := by decide +kernel
theorem dX7_begin_84 : decode cX7_begin 84 = .ok (.aload_n 0, 1) := by decide +kernel
theorem dX7_begin_85 : decode cX7_begin 85 = .ok (.getfield 60, 3) := by decide +kernel
theorem dX7_begin_88 : decode cX7_begin 88 = .ok (.aload_n 0, 1) := by decide +kernel
theorem dX7_begin_89 : decode cX7_begin 89 = .ok (.dup, 1) := by decide +kernel
theorem dX7_begin_90 : decode cX7_begin 90 = .ok (.getfield 149, 3) := by decide +kernel
theorem dX7_begin_93 : decode cX7_begin 93 = .ok (.dup_x1, 1) := by decide +kernel
theorem dX7_begin_94 : decode cX7_begin 94 = .ok (.iconst 1, 1) := by decide +kernel
theorem dX7_begin_95 : decode cX7_begin 95 = .ok (.iadd, 1) := by decide +kernel
theorem dX7_begin_96 : decode cX7_begin 96 = .ok (.putfield 149, 3) := by decide +kernel
theorem dX7_begin_99 : decode cX7_begin 99 = .ok (.iconst 0, 1) := by decide +kernel
theorem dX7_begin_100 : decode cX7_begin 100 = .ok (.iastore, 1) := by decide +kernel
theorem dX7_begin_101 : decode cX7_begin 101 = .ok (.aload_n 0, 1) := by decide +kernel
theorem dX7_begin_102 : decode cX7_begin 102 = .ok (.getfield 149, 3) := by decide +kernel
theorem dX7_begin_105 : decode cX7_begin 105 = .ok (.ireturn, 1) := by decide +kernel
theorem dX7_end_0 : decode cX7_end 0 = .ok (.aload_n 0, 1) := by decide +kernel
theorem dX7_end_1 : decode cX7_end 1 = .ok (.iconst 0, 1) := by decide +kernel
theorem dX7_end_2 : decode cX7_end 2 = .ok (.putfield 93, 3) := by decide +kernel
theorem dX7_end_5 : decode cX7_end 5 = .ok (.iload_n 1, 1) := by decide +kernel
theorem dX7_end_6 : decode cX7_end 6 = .ok (.invokestatic 137, 3) := by decide +kernel
theorem dX7_end_9 : decode cX7_end 9 = .ok (.ifCond .ne 9, 3) := by decide +kernel
theorem dX7_end_12 : decode cX7_end 12 = .ok (.aload_n 0, 1) := by decide +kernel
theorem dX7_end_13 : decode cX7_end 13 = .ok (.iconst 1, 1) := by decide +kernel
theorem dX7_end_14 : decode cX7_end 14 = .ok (.invokevirtual 134, 3) := by decide +kernel
theorem dX7_end_17 : decode cX7_end 17 = .ok (.ireturn, 1) := by decide +kernel
theorem dX7_end_18 : decode cX7_end 18 = .ok (.aload_n 0, 1) := by decide +kernel
theorem dX7_end_19 : decode cX7_end 19 = .ok (.getfield 63, 3) := by decide +kernel
theorem dX7_end_22 : decode cX7_end 22 = .ok (.iload_n 1, 1) := by decide +kernel
theorem dX7_end_23 : decode cX7_end 23 = .ok (.iaload, 1) := by decide +kernel
theorem dX7_end_24 : decode cX7_end 24 = .ok (.iconst (-1), 1) := by decide +kernel
theorem dX7_end_25 : decode cX7_end 25 = .ok (.if_icmp .ne 9, 3) := by decide +kernel
theorem dX7_end_28 : decode cX7_end 28 = .ok (.aload_n 0, 1) := by decide +kernel
theorem dX7_end_29 : decode cX7_end 29 = .ok (.iconst 2, 1) := by decide +kernel
theorem dX7_end_30 : decode cX7_end 30 = .ok (.invokevirtual 134, 3) := by decide +kernel
theorem dX7_end_33 : decode cX7_end 33 = .ok (.ireturn, 1) := by decide +kernel
theorem dX7_end_34 : decode cX7_end 34 = .ok (.aload_n 0, 1) := by decide +kernel
theorem dX7_end_35 : decode cX7_end 35 = .ok (.getfield 63, 3) := by decide +kernel
theorem dX7_end_38 : decode cX7_end 38 = .ok (.iload_n 1, 1) := by decide +kernel
theorem dX7_end_39 : decode cX7_end 39 = .ok (.iaload, 1) := by decide +kernel
theorem dX7_end_40 : decode cX7_end 40 = .ok (.istore_n 3, 1) := by decide +kernel
theorem dX7_end_41 : decode cX7_end 41 = .ok (.aload_n 0, 1) := by decide +kernel
theorem dX7_end_42 : decode cX7_end 42 = .ok (.getfield 63, 3) := by decide +kernel
theorem dX7_end_45 : decode cX7_end 45 = .ok (.iload_n 1, 1) := by decide +kernel
theorem dX7_end_46 : decode cX7_end 46 = .ok (.iconst (-1), 1) := by decide +kernel
theorem dX7_end_47 : decode cX7_end 47 = .ok (.iastore, 1) := by decide +kernel
theorem dX7_end_48 : decode cX7_end 48 = .ok (.aload_n 0, 1) := by decide +kernel
theorem dX7_end_49 : decode cX7_end 49 = .ok (.getfield 60, 3) := by decide +kernel
theorem dX7_end_52 : decode cX7_end 52 = .ok (.iload_n 3, 1) := by decide +kernel
theorem dX7_end_53 : decode cX7_end 53 = .ok (.iload_n 2, 1) := by decide +kernel
theorem dX7_end_54 : decode cX7_end 54 = .ok (.ifCond .eq 7, 3) := by decide +kernel
theorem dX7_end_57 : decode cX7_end 57 = .ok (.iconst 1, 1) := by decide +kernel
theorem dX7_end_58 : decode cX7_end 58 = .ok (.goto 4, 3) := by decide +kernel
theorem dX7_end_61 : decode cX7_end 61 = .ok (.iconst 2, 1) := by decide +kernel
theorem dX7_end_62 : decode cX7_end 62 = .ok (.iastore, 1) := by decide +kernel
theorem dX7_end_63 : decode cX7_end 63 = .ok (.iconst 0, 1) := by decide +kernel
theorem dX7_end_64 : decode cX7_end 64 = .ok (.istore 4, 2) := by decide +kernel
theorem dX7_end_66 : decode cX7_end 66 = .ok (.iconst 0, 1) := by decide +kernel
theorem dX7_end_67 : decode cX7_end 67 = .ok (.istore 5, 2) := by decide +kernel
theorem dX7_end_69 : decode cX7_end 69 = .ok (.iload 5, 2) := by decide +kernel
theorem dX7_end_71 : decode cX7_end 71 = .ok (.aload_n 0, 1) := by decide +kernel
theorem dX7_end_72 : decode cX7_end 72 = .ok (.getfield 140, 3) := by decide +kernel
theorem dX7_end_75 : decode cX7_end 75 = .ok (.if_icmp .ge 30, 3) := by decide +kernel
theorem dX7_end_78 : decode cX7_end 78 = .ok (.iload 4, 2) := by decide +kernel
theorem dX7_end_80 : decode cX7_end 80 = .ok (.aload_n 0, 1) := by decide +kernel
theorem dX7_end_81 : decode cX7_end 81 = .ok (.getfield 51, 3) := by decide +kernel
theorem dX7_end_84 : decode cX7_end 84 = .ok (.iload 5, 2) := by decide +kernel
theorem dX7_end_86 : decode cX7_end 86 = .ok (.iaload, 1) := by decide +kernel
theorem dX7_end_87 : decode cX7_end 87 = .ok (.iload_n 3, 1) := by decide +kernel
theorem dX7_end_88 : decode cX7_end 88 = .ok (.if_icmp .ne 7, 3) := by decide +kernel
theorem dX7_end_91 : decode cX7_end 91 = .ok (.iconst 1, 1) := by decide +kernel
theorem dX7_end_92 : decode cX7_end 92 = .ok (.goto 4, 3) := by decide +kernel
theorem dX7_end_95 : decode cX7_end 95 = .ok (.iconst 0, 1) := by decide +kernel
theorem dX7_end_96 : decode cX7_end 96 = .ok (.iadd, 1) := by decide +kernel
theorem dX7_end_97 : decode cX7_end 97 = .ok (.istore 4, 2) := by decide +kernel
theorem dX7_end_99 : decode cX7_end 99 = .ok (.iinc 5 1, 3) := by decide +kernel
theorem dX7_end_102 : decode cX7_end 102 = .ok (.goto (-33), 3) := by decide +kernel
theorem dX7_end_105 : decode cX7_end 105 = .ok (.aload_n 0, 1) := by decide +kernel
theorem dX7_end_106 : decode cX7_end 106 = .ok (.invokevirtual 146, 3) := by decide +kernel
theorem dX7_end_109 : decode cX7_end 109 = .ok (.iload 4, 2) := by decide +kernel
theorem dX7_end_111 : decode cX7_end 111 = .ok (.ireturn, 1) := by decide +kernel
theorem dX7_setKeep_0 : decode cX7_setKeep 0 = .ok (.aload_n 0, 1) := by decide +kernel
theorem dX7_setKeep_1 : decode cX7_setKeep 1 = .ok (.iconst 0, 1) := by decide +kernel
theorem dX7_setKeep_2 : decode cX7_setKeep 2 = .ok (.putfield 93, 3) := by decide +kernel
theorem dX7_setKeep_5 : decode cX7_setKeep 5 = .ok (.aload_n 0, 1) := by decide +kernel
theorem dX7_setKeep_6 : decode cX7_setKeep 6 = .ok (.iload_n 1, 1) := by decide +kernel
theorem dX7_setKeep_7 : decode cX7_setKeep 7 = .ok (.invokevirtual 103, 3) := by decide +kernel
theorem dX7_setKeep_10 : decode cX7_setKeep 10 = .ok (.ifCond .ne 9, 3) := by decide +kernel
theorem dX7_setKeep_13 : decode cX7_setKeep 13 = .ok (.aload_n 0, 1) := by decide +kernel
theorem dX7_setKeep_14 : decode cX7_setKeep 14 = .ok (.iconst 1, 1) := by decide +kernel
theorem dX7_setKeep_15 : decode cX7_setKeep 15 = .ok (.invokevirtual 134, 3) := by decide +kernel
theorem dX7_setKeep_18 : decode cX7_setKeep 18 = .ok (.ireturn, 1) := by decide +kernel
theorem dX7_setKeep_19 : decode cX7_setKeep 19 = .ok (.iload_n 2, 1) := by decide +kernel
theorem dX7_setKeep_20 : decode cX7_setKeep 20 = .ok (.iconst 0, 1) := by decide +kernel
theorem dX7_setKeep_21 : decode cX7_setKeep 21 = .ok (.sipush 200, 3) := by decide +kernel
theorem dX7_setKeep_24 : decode cX7_setKeep 24 = .ok (.invokestatic 99, 3) := by decide +kernel
theorem dX7_setKeep_27 : decode cX7_setKeep 27 = .ok (.ifCond .ne 9, 3) := by decide +kernel
theorem dX7_setKeep_30 : decode cX7_setKeep 30 = .ok (.aload_n 0, 1) := by decide +kernel
theorem dX7_setKeep_31 : decode cX7_setKeep 31 = .ok (.iconst 2, 1) := by decide +kernel
theorem dX7_setKeep_32 : decode cX7_setKeep 32 = .ok (.invokevirtual 134, 3) := by decide +kernel
theorem dX7_setKeep_35 : decode cX7_setKeep 35 = .ok (.ireturn, 1) := by decide +kernel
theorem dX7_setKeep_36 : decode cX7_setKeep 36 = .ok (.aload_n 0, 1) := by decide +kernel
theorem dX7_setKeep_37 : decode cX7_setKeep 37 = .ok (.getfield 20, 3) := by decide +kernel
theorem dX7_setKeep_40 : decode cX7_setKeep 40 = .ok (.iload_n 1, 1) := by decide +kernel
theorem dX7_setKeep_41 : decode cX7_setKeep 41 = .ok (.iaload, 1) := by decide +kernel
theorem dX7_setKeep_42 : decode cX7_setKeep 42 = .ok (.istore_n 3, 1) := by decide +kernel
theorem dX7_setKeep_43 : decode cX7_setKeep 43 = .ok (.aload_n 0, 1) := by decide +kernel
theorem dX7_setKeep_44 : decode cX7_setKeep 44 = .ok (.getfield 20, 3) := by decide +kernel
theorem dX7_setKeep_47 : decode cX7_setKeep 47 = .ok (.iload_n 1, 1) := by decide +kernel
theorem dX7_setKeep_48 : decode cX7_setKeep 48 = .ok (.iload_n 2, 1) := by decide +kernel
theorem dX7_setKeep_49 : decode cX7_setKeep 49 = .ok (.iastore, 1) := by decide +kernel
theorem dX7_setKeep_50 : decode cX7_setKeep 50 = .ok (.iload_n 3, 1) := by decide +kernel
theorem dX7_setKeep_51 : decode cX7_setKeep 51 = .ok (.ireturn, 1) := by decide +kernel
theorem dX7_cleaned_0 : decode cX7_cleaned 0 = .ok (.iconst 0, 1) := by decide +kernel
theorem dX7_cleaned_1 : decode cX7_cleaned 1 = .ok (.istore_n 3, 1) := by decide +kernel
theorem dX7_cleaned_2 : decode cX7_cleaned 2 = .ok (.iload_n 1, 1) := by decide +kernel
theorem dX7_cleaned_3 : decode cX7_cleaned 3 = .ok (.iconst 4, 1) := by decide +kernel
theorem dX7_cleaned_4 : decode cX7_cleaned 4 = .ok (.imul, 1) := by decide +kernel
theorem dX7_cleaned_5 : decode cX7_cleaned 5 = .ok (.istore 4, 2) := by decide +kernel
theorem dX7_cleaned_7 : decode cX7_cleaned 7 = .ok (.iload 4, 2) := by decide +kernel
theorem dX7_cleaned_9 : decode cX7_cleaned 9 = .ok (.iload_n 1, 1) := by decide +kernel
theorem dX7_cleaned_10 : decode cX7_cleaned 10 = .ok (.iconst 4, 1) := by decide +kernel
theorem dX7_cleaned_11 : decode cX7_cleaned 11 = .ok (.imul, 1) := by decide +kernel
theorem dX7_cleaned_12 : decode cX7_cleaned 12 = .ok (.aload_n 0, 1) := by decide +kernel
theorem dX7_cleaned_13 : decode cX7_cleaned 13 = .ok (.getfield 16, 3) := by decide +kernel
theorem dX7_cleaned_16 : decode cX7_cleaned 16 = .ok (.iload_n 1, 1) := by decide +kernel
theorem dX7_cleaned_17 : decode cX7_cleaned 17 = .ok (.iaload, 1) := by decide +kernel
theorem dX7_cleaned_18 : decode cX7_cleaned 18 = .ok (.iadd, 1) := by decide +kernel
theorem dX7_cleaned_19 : decode cX7_cleaned 19 = .ok (.if_icmp .ge 120, 3) := by decide +kernel
theorem dX7_cleaned_22 : decode cX7_cleaned 22 = .ok (.aload_n 0, 1) := by decide +kernel
theorem dX7_cleaned_23 : decode cX7_cleaned 23 = .ok (.iload 4, 2) := by decide +kernel
theorem dX7_cleaned_25 : decode cX7_cleaned 25 = .ok (.invokevirtual 158, 3) := by decide +kernel
theorem dX7_cleaned_28 : decode cX7_cleaned 28 = .ok (.istore 5, 2) := by decide +kernel
theorem dX7_cleaned_30 : decode cX7_cleaned 30 = .ok (.bipush 10, 2) := by decide +kernel
theorem dX7_cleaned_32 : decode cX7_cleaned 32 = .ok (.newarray .boolean, 2) := by decide +kernel
theorem dX7_cleaned_34 : decode cX7_cleaned 34 = .ok (.astore 6, 2) := by decide +kernel
theorem dX7_cleaned_36 : decode cX7_cleaned 36 = .ok (.iload 5, 2) := by decide +kernel
theorem dX7_cleaned_38 : decode cX7_cleaned 38 = .ok (.iconst 1, 1) := by decide +kernel
theorem dX7_cleaned_39 : decode cX7_cleaned 39 = .ok (.isub, 1) := by decide +kernel
theorem dX7_cleaned_40 : decode cX7_cleaned 40 = .ok (.istore 7, 2) := by decide +kernel
theorem dX7_cleaned_42 : decode cX7_cleaned 42 = .ok (.iload 7, 2) := by decide +kernel
theorem dX7_cleaned_44 : decode cX7_cleaned 44 = .ok (.ifCond .lt 89, 3) := by decide +kernel
theorem dX7_cleaned_47 : decode cX7_cleaned 47 = .ok (.aload_n 0, 1) := by decide +kernel
theorem dX7_cleaned_48 : decode cX7_cleaned 48 = .ok (.iload 4, 2) := by decide +kernel
theorem dX7_cleaned_50 : decode cX7_cleaned 50 = .ok (.iload 7, 2) := by decide +kernel
theorem dX7_cleaned_52 : decode cX7_cleaned 52 = .ok (.invokevirtual 113, 3) := by decide +kernel
theorem dX7_cleaned_55 : decode cX7_cleaned 55 = .ok (.istore 8, 2) := by decide +kernel
theorem dX7_cleaned_57 : decode cX7_cleaned 57 = .ok (.aload_n 0, 1) := by decide +kernel
theorem dX7_cleaned_58 : decode cX7_cleaned 58 = .ok (.iload 8, 2) := by decide +kernel
theorem dX7_cleaned_60 : decode cX7_cleaned 60 = .ok (.invokevirtual 117, 3) := by decide +kernel
theorem dX7_cleaned_63 : decode cX7_cleaned 63 = .ok (.ifCond .ne 64, 3) := by decide +kernel
theorem dX7_cleaned_66 : decode cX7_cleaned 66 = .ok (.aload_n 0, 1) := by decide +kernel
theorem dX7_cleaned_67 : decode cX7_cleaned 67 = .ok (.getfield 42, 3) := by decide +kernel
theorem dX7_cleaned_70 : decode cX7_cleaned 70 = .ok (.iload 8, 2) := by decide +kernel
theorem dX7_cleaned_72 : decode cX7_cleaned 72 = .ok (.iaload, 1) := by decide +kernel
theorem dX7_cleaned_73 : decode cX7_cleaned 73 = .ok (.iconst (-1), 1) := by decide +kernel
theorem dX7_cleaned_74 : decode cX7_cleaned 74 = .ok (.if_icmp .ne 6, 3) := by decide +kernel
theorem dX7_cleaned_77 : decode cX7_cleaned 77 = .ok (.goto 50, 3) := by decide +kernel
theorem dX7_cleaned_80 : decode cX7_cleaned 80 = .ok (.aload 6, 2) := by decide +kernel
theorem dX7_cleaned_82 : decode cX7_cleaned 82 = .ok (.aload_n 0, 1) := by decide +kernel
theorem dX7_cleaned_83 : decode cX7_cleaned 83 = .ok (.getfield 42, 3) := by decide +kernel
theorem dX7_cleaned_86 : decode cX7_cleaned 86 = .ok (.iload 8, 2) := by decide +kernel
theorem dX7_cleaned_88 : decode cX7_cleaned 88 = .ok (.iaload, 1) := by decide +kernel
theorem dX7_cleaned_89 : decode cX7_cleaned 89 = .ok (.baload, 1) := by decide +kernel
theorem dX7_cleaned_90 : decode cX7_cleaned 90 = .ok (.ifCond .eq 26, 3) := by decide +kernel
theorem dX7_cleaned_93 : decode cX7_cleaned 93 = .ok (.aload_n 0, 1) := by decide +kernel
theorem dX7_cleaned_94 : decode cX7_cleaned 94 = .ok (.getfield 54, 3) := by decide +kernel
theorem dX7_cleaned_97 : decode cX7_cleaned 97 = .ok (.iload 8, 2) := by decide +kernel
theorem dX7_cleaned_99 : decode cX7_cleaned 99 = .ok (.baload, 1) := by decide +kernel
theorem dX7_cleaned_100 : decode cX7_cleaned 100 = .ok (.ifCond .ne 16, 3) := by decide +kernel
theorem dX7_cleaned_103 : decode cX7_cleaned 103 = .ok (.iinc 3 1, 3) := by decide +kernel
theorem dX7_cleaned_106 : decode cX7_cleaned 106 = .ok (.iload_n 2, 1) := by decide +kernel
theorem dX7_cleaned_107 : decode cX7_cleaned 107 = .ok (.ifCond .eq 9, 3) := by decide +kernel
theorem dX7_cleaned_110 : decode cX7_cleaned 110 = .ok (.aload_n 0, 1) := by decide +kernel
theorem dX7_cleaned_111 : decode cX7_cleaned 111 = .ok (.iload 8, 2) := by decide +kernel
theorem dX7_cleaned_113 : decode cX7_cleaned 113 = .ok (.invokevirtual 161, 3) := by decide +kernel
theorem dX7_cleaned_116 : decode cX7_cleaned 116 = .ok (.aload 6, 2) := by decide +kernel
theorem dX7_cleaned_118 : decode cX7_cleaned 118 = .ok (.aload_n 0, 1) := by decide +kernel
theorem dX7_cleaned_119 : decode cX7_cleaned 119 = .ok (.getfield 42, 3) := by decide +kernel
theorem dX7_cleaned_122 : decode cX7_cleaned 122 = .ok (.iload 8, 2) := by decide +kernel
theorem dX7_cleaned_124 : decode cX7_cleaned 124 = .ok (.iaload, 1) := by decide +kernel
theorem dX7_cleaned_125 : decode cX7_cleaned 125 = .ok (.iconst 1, 1) := by decide +kernel
theorem dX7_cleaned_126 : decode cX7_cleaned 126 = .ok (.bastore, 1) := by decide +kernel
theorem dX7_cleaned_127 : decode cX7_cleaned 127 = .ok (.iinc 7 (-1), 3) := by decide +kernel
theorem dX7_cleaned_130 : decode cX7_cleaned 130 = .ok (.goto (-88), 3) := by decide +kernel
theorem dX7_cleaned_133 : decode cX7_cleaned 133 = .ok (.iinc 4 1, 3) := by decide +kernel
theorem dX7_cleaned_136 : decode cX7_cleaned 136 = .ok (.goto (-129), 3) := by decide +kernel
theorem dX7_cleaned_139 : decode cX7_cleaned 139 = .ok (.iload_n 3, 1) := by decide +kernel
theorem dX7_cleaned_140 : decode cX7_cleaned 140 = .ok (.ireturn, 1) := by decide +kernel
theorem dX7_clean_0 : decode cX7_clean 0 = .ok (.aload_n 0, 1) := by decide +kernel
theorem dX7_clean_1 : decode cX7_clean 1 = .ok (.iconst 0, 1) := by decide +kernel
theorem dX7_clean_2 : decode cX7_clean 2 = .ok (.putfield 93, 3) := by decide +kernel
theorem dX7_clean_5 : decode cX7_clean 5 = .ok (.aload_n 0, 1) := by decide +kernel
theorem dX7_clean_6 : decode cX7_clean 6 = .ok (.iload_n 1, 1) := by decide +kernel
theorem dX7_clean_7 : decode cX7_clean 7 = .ok (.invokevirtual 103, 3) := by decide +kernel
theorem dX7_clean_10 : decode cX7_clean 10 = .ok (.ifCond .ne 9, 3) := by decide +kernel
theorem dX7_clean_13 : decode cX7_clean 13 = .ok (.aload_n 0, 1) := by decide +kernel
theorem dX7_clean_14 : decode cX7_clean 14 = .ok (.iconst 1, 1) := by decide +kernel
theorem dX7_clean_15 : decode cX7_clean 15 = .ok (.invokevirtual 134, 3) := by decide +kernel
theorem dX7_clean_18 : decode cX7_clean 18 = .ok (.ireturn, 1) := by decide +kernel
theorem dX7_clean_19 : decode cX7_clean 19 = .ok (.aload_n 0, 1) := by decide +kernel
theorem dX7_clean_20 : decode cX7_clean 20 = .ok (.getfield 32, 3) := by decide +kernel
theorem dX7_clean_23 : decode cX7_clean 23 = .ok (.iload_n 1, 1) := by decide +kernel
theorem dX7_clean_24 : decode cX7_clean 24 = .ok (.baload, 1) := by decide +kernel
theorem dX7_clean_25 : decode cX7_clean 25 = .ok (.ifCond .ne 9, 3) := by decide +kernel
theorem dX7_clean_28 : decode cX7_clean 28 = .ok (.aload_n 0, 1) := by decide +kernel
theorem dX7_clean_29 : decode cX7_clean 29 = .ok (.iconst 2, 1) := by decide +kernel
theorem dX7_clean_30 : decode cX7_clean 30 = .ok (.invokevirtual 134, 3) := by decide +kernel
theorem dX7_clean_33 : decode cX7_clean 33 = .ok (.ireturn, 1) := by decide +kernel
theorem dX7_clean_34 : decode cX7_clean 34 = .ok (.aload_n 0, 1) := by decide +kernel
theorem dX7_clean_35 : decode cX7_clean 35 = .ok (.iload_n 1, 1) := by decide +kernel
theorem dX7_clean_36 : decode cX7_clean 36 = .ok (.iconst 1, 1) := by decide +kernel
theorem dX7_clean_37 : decode cX7_clean 37 = .ok (.invokevirtual 165, 3) := by decide +kernel
theorem dX7_clean_40 : decode cX7_clean 40 = .ok (.istore_n 2, 1) := by decide +kernel
theorem dX7_clean_41 : decode cX7_clean 41 = .ok (.aload_n 0, 1) := by decide +kernel
theorem dX7_clean_42 : decode cX7_clean 42 = .ok (.invokevirtual 146, 3) := by decide +kernel
theorem dX7_clean_45 : decode cX7_clean 45 = .ok (.iload_n 2, 1) := by decide +kernel
theorem dX7_clean_46 : decode cX7_clean 46 = .ok (.ireturn, 1) := by decide +kernel
theorem dX7_setClock_0 : decode cX7_setClock 0 = .ok (.aload_n 0, 1) := by decide +kernel
theorem dX7_setClock_1 : decode cX7_setClock 1 = .ok (.iconst 0, 1) := by decide +kernel
theorem dX7_setClock_2 : decode cX7_setClock 2 = .ok (.putfield 93, 3) := by decide +kernel
theorem dX7_setClock_5 : decode cX7_setClock 5 = .ok (.iload_n 1, 1) := by decide +kernel
theorem dX7_setClock_6 : decode cX7_setClock 6 = .ok (.aload_n 0, 1) := by decide +kernel
theorem dX7_setClock_7 : decode cX7_setClock 7 = .ok (.getfield 143, 3) := by decide +kernel
theorem dX7_setClock_10 : decode cX7_setClock 10 = .ok (.if_icmp .le 10, 3) := by decide +kernel
theorem dX7_setClock_13 : decode cX7_setClock 13 = .ok (.iload_n 1, 1) := by decide +kernel
theorem dX7_setClock_14 : decode cX7_setClock 14 = .ok (.sipush 9999, 3) := by decide +kernel
theorem dX7_setClock_17 : decode cX7_setClock 17 = .ok (.if_icmp .le 9, 3) := by decide +kernel
theorem dX7_setClock_20 : decode cX7_setClock 20 = .ok (.aload_n 0, 1) := by decide +kernel
theorem dX7_setClock_21 : decode cX7_setClock 21 = .ok (.iconst 1, 1) := by decide +kernel
theorem dX7_setClock_22 : decode cX7_setClock 22 = .ok (.invokevirtual 134, 3) := by decide +kernel
theorem dX7_setClock_25 : decode cX7_setClock 25 = .ok (.ireturn, 1) := by decide +kernel
theorem dX7_setClock_26 : decode cX7_setClock 26 = .ok (.aload_n 0, 1) := by decide +kernel
theorem dX7_setClock_27 : decode cX7_setClock 27 = .ok (.iload_n 1, 1) := by decide +kernel
theorem dX7_setClock_28 : decode cX7_setClock 28 = .ok (.putfield 143, 3) := by decide +kernel
theorem dX7_setClock_31 : decode cX7_setClock 31 = .ok (.iconst 0, 1) := by decide +kernel
theorem dX7_setClock_32 : decode cX7_setClock 32 = .ok (.istore_n 2, 1) := by decide +kernel
theorem dX7_setClock_33 : decode cX7_setClock 33 = .ok (.iconst 0, 1) := by decide +kernel
theorem dX7_setClock_34 : decode cX7_setClock 34 = .ok (.istore_n 3, 1) := by decide +kernel
theorem dX7_setClock_35 : decode cX7_setClock 35 = .ok (.iload_n 3, 1) := by decide +kernel
theorem dX7_setClock_36 : decode cX7_setClock 36 = .ok (.aload_n 0, 1) := by decide +kernel
theorem dX7_setClock_37 : decode cX7_setClock 37 = .ok (.getfield 107, 3) := by decide +kernel
theorem dX7_setClock_40 : decode cX7_setClock 40 = .ok (.if_icmp .ge 136, 3) := by decide +kernel
theorem dX7_setClock_43 : decode cX7_setClock 43 = .ok (.aload_n 0, 1) := by decide +kernel
theorem dX7_setClock_44 : decode cX7_setClock 44 = .ok (.getfield 66, 3) := by decide +kernel
theorem dX7_setClock_47 : decode cX7_setClock 47 = .ok (.iload_n 3, 1) := by decide +kernel
theorem dX7_setClock_48 : decode cX7_setClock 48 = .ok (.iaload, 1) := by decide +kernel
theorem dX7_setClock_49 : decode cX7_setClock 49 = .ok (.iconst 4, 1) := by decide +kernel
theorem dX7_setClock_50 : decode cX7_setClock 50 = .ok (.imul, 1) := by decide +kernel
theorem dX7_setClock_51 : decode cX7_setClock 51 = .ok (.istore 4, 2) := by decide +kernel
theorem dX7_setClock_53 : decode cX7_setClock 53 = .ok (.iload 4, 2) := by decide +kernel
theorem dX7_setClock_55 : decode cX7_setClock 55 = .ok (.aload_n 0, 1) := by decide +kernel
theorem dX7_setClock_56 : decode cX7_setClock 56 = .ok (.getfield 66, 3) := by decide +kernel
theorem dX7_setClock_59 : decode cX7_setClock 59 = .ok (.iload_n 3, 1) := by decide +kernel
theorem dX7_setClock_60 : decode cX7_setClock 60 = .ok (.iaload, 1) := by decide +kernel
theorem dX7_setClock_61 : decode cX7_setClock 61 = .ok (.iconst 4, 1) := by decide +kernel
theorem dX7_setClock_62 : decode cX7_setClock 62 = .ok (.imul, 1) := by decide +kernel
theorem dX7_setClock_63 : decode cX7_setClock 63 = .ok (.aload_n 0, 1) := by decide +kernel
theorem dX7_setClock_64 : decode cX7_setClock 64 = .ok (.getfield 16, 3) := by decide +kernel
theorem dX7_setClock_67 : decode cX7_setClock 67 = .ok (.aload_n 0, 1) := by decide +kernel
theorem dX7_setClock_68 : decode cX7_setClock 68 = .ok (.getfield 66, 3) := by decide +kernel
theorem dX7_setClock_71 : decode cX7_setClock 71 = .ok (.iload_n 3, 1) := by decide +kernel
theorem dX7_setClock_72 : decode cX7_setClock 72 = .ok (.iaload, 1) := by decide +kernel
theorem dX7_setClock_73 : decode cX7_setClock 73 = .ok (.iaload, 1) := by decide +kernel
theorem dX7_setClock_74 : decode cX7_setClock 74 = .ok (.iadd, 1) := by decide +kernel
theorem dX7_setClock_75 : decode cX7_setClock 75 = .ok (.if_icmp .ge 95, 3) := by decide +kernel
theorem dX7_setClock_78 : decode cX7_setClock 78 = .ok (.iconst 0, 1) := by decide +kernel
theorem dX7_setClock_79 : decode cX7_setClock 79 = .ok (.istore 5, 2) := by decide +kernel
theorem dX7_setClock_81 : decode cX7_setClock 81 = .ok (.iload 5, 2) := by decide +kernel
theorem dX7_setClock_83 : decode cX7_setClock 83 = .ok (.aload_n 0, 1) := by decide +kernel
theorem dX7_setClock_84 : decode cX7_setClock 84 = .ok (.getfield 26, 3) := by decide +kernel
theorem dX7_setClock_87 : decode cX7_setClock 87 = .ok (.iload 4, 2) := by decide +kernel
theorem dX7_setClock_89 : decode cX7_setClock 89 = .ok (.iaload, 1) := by decide +kernel
theorem dX7_setClock_90 : decode cX7_setClock 90 = .ok (.if_icmp .ge 74, 3) := by decide +kernel
theorem dX7_setClock_93 : decode cX7_setClock 93 = .ok (.iload_n 3, 1) := by decide +kernel
theorem dX7_setClock_94 : decode cX7_setClock 94 = .ok (.bipush 80, 2) := by decide +kernel
theorem dX7_setClock_96 : decode cX7_setClock 96 = .ok (.imul, 1) := by decide +kernel
theorem dX7_setClock_97 : decode cX7_setClock 97 = .ok (.aload_n 0, 1) := by decide +kernel
theorem dX7_setClock_98 : decode cX7_setClock 98 = .ok (.iload 4, 2) := by decide +kernel
theorem dX7_setClock_100 : decode cX7_setClock 100 = .ok (.iload 5, 2) := by decide +kernel
theorem dX7_setClock_102 : decode cX7_setClock 102 = .ok (.invokevirtual 113, 3) := by decide +kernel
theorem dX7_setClock_105 : decode cX7_setClock 105 = .ok (.iadd, 1) := by decide +kernel
theorem dX7_setClock_106 : decode cX7_setClock 106 = .ok (.istore 6, 2) := by decide +kernel
theorem dX7_setClock_108 : decode cX7_setClock 108 = .ok (.aload_n 0, 1) := by decide +kernel
theorem dX7_setClock_109 : decode cX7_setClock 109 = .ok (.getfield 81, 3) := by decide +kernel
theorem dX7_setClock_112 : decode cX7_setClock 112 = .ok (.iload 6, 2) := by decide +kernel
theorem dX7_setClock_114 : decode cX7_setClock 114 = .ok (.iaload, 1) := by decide +kernel
theorem dX7_setClock_115 : decode cX7_setClock 115 = .ok (.iconst 1, 1) := by decide +kernel
theorem dX7_setClock_116 : decode cX7_setClock 116 = .ok (.if_icmp .ne 42, 3) := by decide +kernel
theorem dX7_setClock_119 : decode cX7_setClock 119 = .ok (.aload_n 0, 1) := by decide +kernel
theorem dX7_setClock_120 : decode cX7_setClock 120 = .ok (.getfield 87, 3) := by decide +kernel
theorem dX7_setClock_123 : decode cX7_setClock 123 = .ok (.iload 6, 2) := by decide +kernel
theorem dX7_setClock_125 : decode cX7_setClock 125 = .ok (.iaload, 1) := by decide +kernel
theorem dX7_setClock_126 : decode cX7_setClock 126 = .ok (.aload_n 0, 1) := by decide +kernel
theorem dX7_setClock_127 : decode cX7_setClock 127 = .ok (.getfield 13, 3) := by decide +kernel
theorem dX7_setClock_130 : decode cX7_setClock 130 = .ok (.iadd, 1) := by decide +kernel
theorem dX7_setClock_131 : decode cX7_setClock 131 = .ok (.aload_n 0, 1) := by decide +kernel
theorem dX7_setClock_132 : decode cX7_setClock 132 = .ok (.getfield 143, 3) := by decide +kernel
theorem dX7_setClock_135 : decode cX7_setClock 135 = .ok (.if_icmp .le 6, 3) := by decide +kernel
theorem dX7_setClock_138 : decode cX7_setClock 138 = .ok (.goto 20, 3) := by decide +kernel
theorem dX7_setClock_141 : decode cX7_setClock 141 = .ok (.aload_n 0, 1) := by decide +kernel
theorem dX7_setClock_142 : decode cX7_setClock 142 = .ok (.iload_n 3, 1) := by decide +kernel
theorem dX7_setClock_143 : decode cX7_setClock 143 = .ok (.aload_n 0, 1) := by decide +kernel
theorem dX7_setClock_144 : decode cX7_setClock 144 = .ok (.iload 4, 2) := by decide +kernel
theorem dX7_setClock_146 : decode cX7_setClock 146 = .ok (.iload 5, 2) := by decide +kernel
theorem dX7_setClock_148 : decode cX7_setClock 148 = .ok (.invokevirtual 113, 3) := by decide +kernel
theorem dX7_setClock_151 : decode cX7_setClock 151 = .ok (.invokevirtual 169, 3) := by decide +kernel
theorem dX7_setClock_154 : decode cX7_setClock 154 = .ok (.pop, 1) := by decide +kernel
theorem dX7_setClock_155 : decode cX7_setClock 155 = .ok (.iinc 2 1, 3) := by decide +kernel
theorem dX7_setClock_158 : decode cX7_setClock 158 = .ok (.iinc 5 1, 3) := by decide +kernel
theorem dX7_setClock_161 : decode cX7_setClock 161 = .ok (.goto (-80), 3) := by decide +kernel
theorem dX7_setClock_164 : decode cX7_setClock 164 = .ok (.iinc 4 1, 3) := by decide +kernel
theorem dX7_setClock_167 : decode cX7_setClock 167 = .ok (.goto (-114), 3) := by decide +kernel
theorem dX7_setClock_170 : decode cX7_setClock 170 = .ok (.iinc 3 1, 3) := by decide +kernel
theorem dX7_setClock_173 : decode cX7_setClock 173 = .ok (.goto (-138), 3) := by decide +kernel
theorem dX7_setClock_176 : decode cX7_setClock 176 = .ok (.iconst 0, 1) := by decide +kernel
theorem dX7_setClock_177 : decode cX7_setClock 177 = .ok (.istore_n 3, 1) := by decide +kernel
theorem dX7_setClock_178 : decode cX7_setClock 178 = .ok (.iload_n 3, 1) := by decide +kernel
theorem dX7_setClock_179 : decode cX7_setClock 179 = .ok (.aload_n 0, 1) := by decide +kernel
theorem dX7_setClock_180 : decode cX7_setClock 180 = .ok (.getfield 96, 3) := by decide +kernel
theorem dX7_setClock_183 : decode cX7_setClock 183 = .ok (.if_icmp .ge 45, 3) := by decide +kernel
theorem dX7_setClock_186 : decode cX7_setClock 186 = .ok (.iconst 0, 1) := by decide +kernel
theorem dX7_setClock_187 : decode cX7_setClock 187 = .ok (.istore 4, 2) := by decide +kernel
theorem dX7_setClock_189 : decode cX7_setClock 189 = .ok (.iload 4, 2) := by decide +kernel
theorem dX7_setClock_191 : decode cX7_setClock 191 = .ok (.aload_n 0, 1) := by decide +kernel
theorem dX7_setClock_192 : decode cX7_setClock 192 = .ok (.getfield 16, 3) := by decide +kernel
theorem dX7_setClock_195 : decode cX7_setClock 195 = .ok (.iload_n 3, 1) := by decide +kernel
theorem dX7_setClock_196 : decode cX7_setClock 196 = .ok (.iaload, 1) := by decide +kernel
theorem dX7_setClock_197 : decode cX7_setClock 197 = .ok (.if_icmp .ge 25, 3) := by decide +kernel
theorem dX7_setClock_200 : decode cX7_setClock 200 = .ok (.aload_n 0, 1) := by decide +kernel
theorem dX7_setClock_201 : decode cX7_setClock 201 = .ok (.iload_n 3, 1) := by decide +kernel
theorem dX7_setClock_202 : decode cX7_setClock 202 = .ok (.iconst 4, 1) := by decide +kernel
theorem dX7_setClock_203 : decode cX7_setClock 203 = .ok (.imul, 1) := by decide +kernel
theorem dX7_setClock_204 : decode cX7_setClock 204 = .ok (.iload 4, 2) := by decide +kernel
theorem dX7_setClock_206 : decode cX7_setClock 206 = .ok (.iadd, 1) := by decide +kernel
theorem dX7_setClock_207 : decode cX7_setClock 207 = .ok (.aload_n 0, 1) := by decide +kernel
theorem dX7_setClock_208 : decode cX7_setClock 208 = .ok (.getfield 20, 3) := by decide +kernel
theorem dX7_setClock_211 : decode cX7_setClock 211 = .ok (.iload_n 3, 1) := by decide +kernel
theorem dX7_setClock_212 : decode cX7_setClock 212 = .ok (.iaload, 1) := by decide +kernel
theorem dX7_setClock_213 : decode cX7_setClock 213 = .ok (.invokevirtual 172, 3) := by decide +kernel
theorem dX7_setClock_216 : decode cX7_setClock 216 = .ok (.iinc 4 1, 3) := by decide +kernel
theorem dX7_setClock_219 : decode cX7_setClock 219 = .ok (.goto (-30), 3) := by decide +kernel
theorem dX7_setClock_222 : decode cX7_setClock 222 = .ok (.iinc 3 1, 3) := by decide +kernel
theorem dX7_setClock_225 : decode cX7_setClock 225 = .ok (.goto (-47), 3) := by decide +kernel
theorem dX7_setClock_228 : decode cX7_setClock 228 = .ok (.aload_n 0, 1) := by decide +kernel
theorem dX7_setClock_229 : decode cX7_setClock 229 = .ok (.invokevirtual 146, 3) := by decide +kernel
theorem dX7_setClock_232 : decode cX7_setClock 232 = .ok (.iload_n 2, 1) := by decide +kernel
theorem dX7_setClock_233 : decode cX7_setClock 233 = .ok (.ireturn, 1) := by decide +kernel
theorem dX7_dropOld_0 : decode cX7_dropOld 0 = .ok (.iload_n 2, 1) := by decide +kernel
theorem dX7_dropOld_1 : decode cX7_dropOld 1 = .ok (.ifCond .le 73, 3) := by decide +kernel
theorem dX7_dropOld_4 : decode cX7_dropOld 4 = .ok (.aload_n 0, 1) := by decide +kernel
theorem dX7_dropOld_5 : decode cX7_dropOld 5 = .ok (.getfield 23, 3) := by decide +kernel
theorem dX7_dropOld_8 : decode cX7_dropOld 8 = .ok (.iload_n 1, 1) := by decide +kernel
theorem dX7_dropOld_9 : decode cX7_dropOld 9 = .ok (.iaload, 1) := by decide +kernel
theorem dX7_dropOld_10 : decode cX7_dropOld 10 = .ok (.aload_n 0, 1) := by decide +kernel
theorem dX7_dropOld_11 : decode cX7_dropOld 11 = .ok (.getfield 26, 3) := by decide +kernel
theorem dX7_dropOld_14 : decode cX7_dropOld 14 = .ok (.iload_n 1, 1) := by decide +kernel
theorem dX7_dropOld_15 : decode cX7_dropOld 15 = .ok (.iaload, 1) := by decide +kernel
theorem dX7_dropOld_16 : decode cX7_dropOld 16 = .ok (.if_icmp .ge 58, 3) := by decide +kernel
theorem dX7_dropOld_19 : decode cX7_dropOld 19 = .ok (.aload_n 0, 1) := by decide +kernel
theorem dX7_dropOld_20 : decode cX7_dropOld 20 = .ok (.iload_n 1, 1) := by decide +kernel
theorem dX7_dropOld_21 : decode cX7_dropOld 21 = .ok (.aload_n 0, 1) := by decide +kernel
theorem dX7_dropOld_22 : decode cX7_dropOld 22 = .ok (.getfield 23, 3) := by decide +kernel
theorem dX7_dropOld_25 : decode cX7_dropOld 25 = .ok (.iload_n 1, 1) := by decide +kernel
theorem dX7_dropOld_26 : decode cX7_dropOld 26 = .ok (.iaload, 1) := by decide +kernel
theorem dX7_dropOld_27 : decode cX7_dropOld 27 = .ok (.invokevirtual 113, 3) := by decide +kernel
theorem dX7_dropOld_30 : decode cX7_dropOld 30 = .ok (.istore_n 3, 1) := by decide +kernel
theorem dX7_dropOld_31 : decode cX7_dropOld 31 = .ok (.aload_n 0, 1) := by decide +kernel
theorem dX7_dropOld_32 : decode cX7_dropOld 32 = .ok (.getfield 48, 3) := by decide +kernel
theorem dX7_dropOld_35 : decode cX7_dropOld 35 = .ok (.iload_n 3, 1) := by decide +kernel
theorem dX7_dropOld_36 : decode cX7_dropOld 36 = .ok (.iaload, 1) := by decide +kernel
theorem dX7_dropOld_37 : decode cX7_dropOld 37 = .ok (.iload_n 2, 1) := by decide +kernel
theorem dX7_dropOld_38 : decode cX7_dropOld 38 = .ok (.iadd, 1) := by decide +kernel
theorem dX7_dropOld_39 : decode cX7_dropOld 39 = .ok (.aload_n 0, 1) := by decide +kernel
theorem dX7_dropOld_40 : decode cX7_dropOld 40 = .ok (.getfield 143, 3) := by decide +kernel
theorem dX7_dropOld_43 : decode cX7_dropOld 43 = .ok (.if_icmp .gt 12, 3) := by decide +kernel
theorem dX7_dropOld_46 : decode cX7_dropOld 46 = .ok (.aload_n 0, 1) := by decide +kernel
theorem dX7_dropOld_47 : decode cX7_dropOld 47 = .ok (.iload_n 3, 1) := by decide +kernel
theorem dX7_dropOld_48 : decode cX7_dropOld 48 = .ok (.invokevirtual 117, 3) := by decide +kernel
theorem dX7_dropOld_51 : decode cX7_dropOld 51 = .ok (.iconst 2, 1) := by decide +kernel
theorem dX7_dropOld_52 : decode cX7_dropOld 52 = .ok (.if_icmp .ne 4, 3) := by decide +kernel
theorem dX7_dropOld_55 : decode cX7_dropOld 55 = .ok (.return_, 1) := by decide +kernel
theorem dX7_dropOld_56 : decode cX7_dropOld 56 = .ok (.aload_n 0, 1) := by decide +kernel
theorem dX7_dropOld_57 : decode cX7_dropOld 57 = .ok (.iload_n 3, 1) := by decide +kernel
theorem dX7_dropOld_58 : decode cX7_dropOld 58 = .ok (.invokevirtual 161, 3) := by decide +kernel
theorem dX7_dropOld_61 : decode cX7_dropOld 61 = .ok (.aload_n 0, 1) := by decide +kernel
theorem dX7_dropOld_62 : decode cX7_dropOld 62 = .ok (.getfield 23, 3) := by decide +kernel
theorem dX7_dropOld_65 : decode cX7_dropOld 65 = .ok (.iload_n 1, 1) := by decide +kernel
theorem dX7_dropOld_66 : decode cX7_dropOld 66 = .ok (.dup2, 1) := by decide +kernel
theorem dX7_dropOld_67 : decode cX7_dropOld 67 = .ok (.iaload, 1) := by decide +kernel
theorem dX7_dropOld_68 : decode cX7_dropOld 68 = .ok (.iconst 1, 1) := by decide +kernel
theorem dX7_dropOld_69 : decode cX7_dropOld 69 = .ok (.iadd, 1) := by decide +kernel
theorem dX7_dropOld_70 : decode cX7_dropOld 70 = .ok (.iastore, 1) := by decide +kernel
theorem dX7_dropOld_71 : decode cX7_dropOld 71 = .ok (.goto (-71), 3) := by decide +kernel
theorem dX7_dropOld_74 : decode cX7_dropOld 74 = .ok (.return_, 1) := by decide +kernel
theorem dX7_setPatience_0 : decode cX7_setPatience 0 = .ok (.aload_n 0, 1) := by decide +kernel
theorem dX7_setPatience_1 : decode cX7_setPatience 1 = .ok (.iconst 0, 1) := by decide +kernel
theorem dX7_setPatience_2 : decode cX7_setPatience 2 = .ok (.putfield 93, 3) := by decide +kernel
theorem dX7_setPatience_5 : decode cX7_setPatience 5 = .ok (.iload_n 1, 1) := by decide +kernel
theorem dX7_setPatience_6 : decode cX7_setPatience 6 = .ok (.iconst 1, 1) := by decide +kernel
theorem dX7_setPatience_7 : decode cX7_setPatience 7 = .ok (.bipush 20, 2) := by decide +kernel
theorem dX7_setPatience_9 : decode cX7_setPatience 9 = .ok (.invokestatic 99, 3) := by decide +kernel
theorem dX7_setPatience_12 : decode cX7_setPatience 12 = .ok (.ifCond .eq 13, 3) := by decide +kernel
theorem dX7_setPatience_15 : decode cX7_setPatience 15 = .ok (.iload_n 2, 1) := by decide +kernel
theorem dX7_setPatience_16 : decode cX7_setPatience 16 = .ok (.iconst 1, 1) := by decide +kernel
theorem dX7_setPatience_17 : decode cX7_setPatience 17 = .ok (.bipush 50, 2) := by decide +kernel
theorem dX7_setPatience_19 : decode cX7_setPatience 19 = .ok (.invokestatic 99, 3) := by decide +kernel
theorem dX7_setPatience_22 : decode cX7_setPatience 22 = .ok (.ifCond .ne 9, 3) := by decide +kernel
theorem dX7_setPatience_25 : decode cX7_setPatience 25 = .ok (.aload_n 0, 1) := by decide +kernel
theorem dX7_setPatience_26 : decode cX7_setPatience 26 = .ok (.iconst 1, 1) := by decide +kernel
theorem dX7_setPatience_27 : decode cX7_setPatience 27 = .ok (.invokevirtual 134, 3) := by decide +kernel
theorem dX7_setPatience_30 : decode cX7_setPatience 30 = .ok (.ireturn, 1) := by decide +kernel
theorem dX7_setPatience_31 : decode cX7_setPatience 31 = .ok (.aload_n 0, 1) := by decide +kernel
theorem dX7_setPatience_32 : decode cX7_setPatience 32 = .ok (.getfield 7, 3) := by decide +kernel
theorem dX7_setPatience_35 : decode cX7_setPatience 35 = .ok (.istore_n 3, 1) := by decide +kernel
theorem dX7_setPatience_36 : decode cX7_setPatience 36 = .ok (.aload_n 0, 1) := by decide +kernel
theorem dX7_setPatience_37 : decode cX7_setPatience 37 = .ok (.iload_n 1, 1) := by decide +kernel
theorem dX7_setPatience_38 : decode cX7_setPatience 38 = .ok (.putfield 7, 3) := by decide +kernel
theorem dX7_setPatience_41 : decode cX7_setPatience 41 = .ok (.aload_n 0, 1) := by decide +kernel
theorem dX7_setPatience_42 : decode cX7_setPatience 42 = .ok (.iload_n 2, 1) := by decide +kernel
theorem dX7_setPatience_43 : decode cX7_setPatience 43 = .ok (.putfield 13, 3) := by decide +kernel
theorem dX7_setPatience_46 : decode cX7_setPatience 46 = .ok (.iload_n 3, 1) := by decide +kernel
theorem dX7_setPatience_47 : decode cX7_setPatience 47 = .ok (.ireturn, 1) := by decide +kernel
theorem dX7_clock_0 : decode cX7_clock 0 = .ok (.aload_n 0, 1) := by decide +kernel
theorem dX7_clock_1 : decode cX7_clock 1 = .ok (.aload_n 0, 1) := by decide +kernel
theorem dX7_clock_2 : decode cX7_clock 2 = .ok (.getfield 143, 3) := by decide +kernel
theorem dX7_clock_5 : decode cX7_clock 5 = .ok (.invokevirtual 175, 3) := by decide +kernel
theorem dX7_clock_8 : decode cX7_clock 8 = .ok (.ireturn, 1) := by decide +kernel
theorem dX7_topics_0 : decode cX7_topics 0 = .ok (.aload_n 0, 1) := by decide +kernel
theorem dX7_topics_1 : decode cX7_topics 1 = .ok (.aload_n 0, 1) := by decide +kernel
theorem dX7_topics_2 : decode cX7_topics 2 = .ok (.getfield 96, 3) := by decide +kernel
theorem dX7_topics_5 : decode cX7_topics 5 = .ok (.invokevirtual 175, 3) := by decide +kernel
theorem dX7_topics_8 : decode cX7_topics 8 = .ok (.ireturn, 1) := by decide +kernel
theorem dX7_ofPlace_0 : decode cX7_ofPlace 0 = .ok (.aload_n 0, 1) := by decide +kernel
theorem dX7_ofPlace_1 : decode cX7_ofPlace 1 = .ok (.iconst 0, 1) := by decide +kernel
theorem dX7_ofPlace_2 : decode cX7_ofPlace 2 = .ok (.putfield 93, 3) := by decide +kernel
theorem dX7_ofPlace_5 : decode cX7_ofPlace 5 = .ok (.aload_n 0, 1) := by decide +kernel
theorem dX7_ofPlace_6 : decode cX7_ofPlace 6 = .ok (.iload_n 1, 1) := by decide +kernel
theorem dX7_ofPlace_7 : decode cX7_ofPlace 7 = .ok (.iload_n 2, 1) := by decide +kernel
theorem dX7_ofPlace_8 : decode cX7_ofPlace 8 = .ok (.invokevirtual 178, 3) := by decide +kernel
theorem dX7_ofPlace_11 : decode cX7_ofPlace 11 = .ok (.ifCond .eq 13, 3) := by decide +kernel
theorem dX7_ofPlace_14 : decode cX7_ofPlace 14 = .ok (.aload_n 3, 1) := by decide +kernel
theorem dX7_ofPlace_15 : decode cX7_ofPlace 15 = .ok (.iload_n 1, 1) := by decide +kernel
theorem dX7_ofPlace_16 : decode cX7_ofPlace 16 = .ok (.iconst 4, 1) := by decide +kernel
theorem dX7_ofPlace_17 : decode cX7_ofPlace 17 = .ok (.imul, 1) := by decide +kernel
theorem dX7_ofPlace_18 : decode cX7_ofPlace 18 = .ok (.iload_n 2, 1) := by decide +kernel
theorem dX7_ofPlace_19 : decode cX7_ofPlace 19 = .ok (.iadd, 1) := by decide +kernel
theorem dX7_ofPlace_20 : decode cX7_ofPlace 20 = .ok (.iaload, 1) := by decide +kernel
theorem dX7_ofPlace_21 : decode cX7_ofPlace 21 = .ok (.goto 8, 3) := by decide +kernel
theorem dX7_ofPlace_24 : decode cX7_ofPlace 24 = .ok (.aload_n 0, 1) := by decide +kernel
theorem dX7_ofPlace_25 : decode cX7_ofPlace 25 = .ok (.iconst 1, 1) := by decide +kernel
theorem dX7_ofPlace_26 : decode cX7_ofPlace 26 = .ok (.invokevirtual 134, 3) := by decide +kernel
theorem dX7_ofPlace_29 : decode cX7_ofPlace 29 = .ok (.ireturn, 1) := by decide +kernel
theorem dX7_start_0 : decode cX7_start 0 = .ok (.aload_n 0, 1) := by decide +kernel
theorem dX7_start_1 : decode cX7_start 1 = .ok (.iload_n 1, 1) := by decide +kernel
theorem dX7_start_2 : decode cX7_start 2 = .ok (.iload_n 2, 1) := by decide +kernel
theorem dX7_start_3 : decode cX7_start 3 = .ok (.aload_n 0, 1) := by decide +kernel
theorem dX7_start_4 : decode cX7_start 4 = .ok (.getfield 23, 3) := by decide +kernel
theorem dX7_start_7 : decode cX7_start 7 = .ok (.invokevirtual 181, 3) := by decide +kernel
theorem dX7_start_10 : decode cX7_start 10 = .ok (.ireturn, 1) := by decide +kernel
theorem dX7_endOf_0 : decode cX7_endOf 0 = .ok (.aload_n 0, 1) := by decide +kernel
theorem dX7_endOf_1 : decode cX7_endOf 1 = .ok (.iload_n 1, 1) := by decide +kernel
theorem dX7_endOf_2 : decode cX7_endOf 2 = .ok (.iload_n 2, 1) := by decide +kernel
theorem dX7_endOf_3 : decode cX7_endOf 3 = .ok (.aload_n 0, 1) := by decide +kernel
theorem dX7_endOf_4 : decode cX7_endOf 4 = .ok (.getfield 26, 3) := by decide +kernel
theorem dX7_endOf_7 : decode cX7_endOf 7 = .ok (.invokevirtual 181, 3) := by decide +kernel
theorem dX7_endOf_10 : decode cX7_endOf 10 = .ok (.ireturn, 1) := by decide +kernel
theorem dX7_stable_0 : decode cX7_stable 0 = .ok (.aload_n 0, 1) := by decide +kernel
theorem dX7_stable_1 : decode cX7_stable 1 = .ok (.iconst 0, 1) := by decide +kernel
theorem dX7_stable_2 : decode cX7_stable 2 = .ok (.putfield 93, 3) := by decide +kernel
theorem dX7_stable_5 : decode cX7_stable 5 = .ok (.aload_n 0, 1) := by decide +kernel
theorem dX7_stable_6 : decode cX7_stable 6 = .ok (.iload_n 1, 1) := by decide +kernel
theorem dX7_stable_7 : decode cX7_stable 7 = .ok (.iload_n 2, 1) := by decide +kernel
theorem dX7_stable_8 : decode cX7_stable 8 = .ok (.invokevirtual 178, 3) := by decide +kernel
theorem dX7_stable_11 : decode cX7_stable 11 = .ok (.ifCond .eq 15, 3) := by decide +kernel
theorem dX7_stable_14 : decode cX7_stable 14 = .ok (.aload_n 0, 1) := by decide +kernel
theorem dX7_stable_15 : decode cX7_stable 15 = .ok (.iload_n 1, 1) := by decide +kernel
theorem dX7_stable_16 : decode cX7_stable 16 = .ok (.iconst 4, 1) := by decide +kernel
theorem dX7_stable_17 : decode cX7_stable 17 = .ok (.imul, 1) := by decide +kernel
theorem dX7_stable_18 : decode cX7_stable 18 = .ok (.iload_n 2, 1) := by decide +kernel
theorem dX7_stable_19 : decode cX7_stable 19 = .ok (.iadd, 1) := by decide +kernel
theorem dX7_stable_20 : decode cX7_stable 20 = .ok (.invokevirtual 158, 3) := by decide +kernel
theorem dX7_stable_23 : decode cX7_stable 23 = .ok (.goto 8, 3) := by decide +kernel
theorem dX7_stable_26 : decode cX7_stable 26 = .ok (.aload_n 0, 1) := by decide +kernel
theorem dX7_stable_27 : decode cX7_stable 27 = .ok (.iconst 1, 1) := by decide +kernel
theorem dX7_stable_28 : decode cX7_stable 28 = .ok (.invokevirtual 134, 3) := by decide +kernel
theorem dX7_stable_31 : decode cX7_stable 31 = .ok (.ireturn, 1) := by decide +kernel
theorem dX7_ofMessage_0 : decode cX7_ofMessage 0 = .ok (.iload_n 2, 1) := by decide +kernel
theorem dX7_ofMessage_1 : decode cX7_ofMessage 1 = .ok (.tableswitch 58 0 3 #[31, 38, 45, 52], 31) := by decide +kernel
theorem dX7_ofMessage_32 : decode cX7_ofMessage 32 = .ok (.aload_n 0, 1) := by decide +kernel
theorem dX7_ofMessage_33 : decode cX7_ofMessage 33 = .ok (.getfield 42, 3) := by decide +kernel
theorem dX7_ofMessage_36 : decode cX7_ofMessage 36 = .ok (.iload_n 1, 1) := by decide +kernel
theorem dX7_ofMessage_37 : decode cX7_ofMessage 37 = .ok (.iaload, 1) := by decide +kernel
theorem dX7_ofMessage_38 : decode cX7_ofMessage 38 = .ok (.ireturn, 1) := by decide +kernel
theorem dX7_ofMessage_39 : decode cX7_ofMessage 39 = .ok (.aload_n 0, 1) := by decide +kernel
theorem dX7_ofMessage_40 : decode cX7_ofMessage 40 = .ok (.getfield 45, 3) := by decide +kernel
theorem dX7_ofMessage_43 : decode cX7_ofMessage 43 = .ok (.iload_n 1, 1) := by decide +kernel
theorem dX7_ofMessage_44 : decode cX7_ofMessage 44 = .ok (.iaload, 1) := by decide +kernel
theorem dX7_ofMessage_45 : decode cX7_ofMessage 45 = .ok (.ireturn, 1) := by decide +kernel
theorem dX7_ofMessage_46 : decode cX7_ofMessage 46 = .ok (.aload_n 0, 1) := by decide +kernel
theorem dX7_ofMessage_47 : decode cX7_ofMessage 47 = .ok (.getfield 48, 3) := by decide +kernel
theorem dX7_ofMessage_50 : decode cX7_ofMessage 50 = .ok (.iload_n 1, 1) := by decide +kernel
theorem dX7_ofMessage_51 : decode cX7_ofMessage 51 = .ok (.iaload, 1) := by decide +kernel
theorem dX7_ofMessage_52 : decode cX7_ofMessage 52 = .ok (.ireturn, 1) := by decide +kernel
theorem dX7_ofMessage_53 : decode cX7_ofMessage 53 = .ok (.aload_n 0, 1) := by decide +kernel
theorem dX7_ofMessage_54 : decode cX7_ofMessage 54 = .ok (.iload_n 1, 1) := by decide +kernel
theorem dX7_ofMessage_55 : decode cX7_ofMessage 55 = .ok (.invokevirtual 117, 3) := by decide +kernel
theorem dX7_ofMessage_58 : decode cX7_ofMessage 58 = .ok (.ireturn, 1) := by decide +kernel
theorem dX7_ofMessage_59 : decode cX7_ofMessage 59 = .ok (.aload_n 0, 1) := by decide +kernel
theorem dX7_ofMessage_60 : decode cX7_ofMessage 60 = .ok (.getfield 54, 3) := by decide +kernel
theorem dX7_ofMessage_63 : decode cX7_ofMessage 63 = .ok (.iload_n 1, 1) := by decide +kernel
theorem dX7_ofMessage_64 : decode cX7_ofMessage 64 = .ok (.baload, 1) := by decide +kernel
theorem dX7_ofMessage_65 : decode cX7_ofMessage 65 = .ok (.ifCond .eq 7, 3) := by decide +kernel
theorem dX7_ofMessage_68 : decode cX7_ofMessage 68 = .ok (.iconst 1, 1) := by decide +kernel
theorem dX7_ofMessage_69 : decode cX7_ofMessage 69 = .ok (.goto 4, 3) := by decide +kernel
theorem dX7_ofMessage_72 : decode cX7_ofMessage 72 = .ok (.iconst 0, 1) := by decide +kernel
theorem dX7_ofMessage_73 : decode cX7_ofMessage 73 = .ok (.ireturn, 1) := by decide +kernel
theorem dX7_message_0 : decode cX7_message 0 = .ok (.aload_n 0, 1) := by decide +kernel
theorem dX7_message_1 : decode cX7_message 1 = .ok (.iconst 0, 1) := by decide +kernel
theorem dX7_message_2 : decode cX7_message 2 = .ok (.putfield 93, 3) := by decide +kernel
theorem dX7_message_5 : decode cX7_message 5 = .ok (.aload_n 0, 1) := by decide +kernel
theorem dX7_message_6 : decode cX7_message 6 = .ok (.iload_n 1, 1) := by decide +kernel
theorem dX7_message_7 : decode cX7_message 7 = .ok (.iload_n 2, 1) := by decide +kernel
theorem dX7_message_8 : decode cX7_message 8 = .ok (.invokevirtual 178, 3) := by decide +kernel
theorem dX7_message_11 : decode cX7_message 11 = .ok (.ifCond .eq 23, 3) := by decide +kernel
theorem dX7_message_14 : decode cX7_message 14 = .ok (.iload_n 3, 1) := by decide +kernel
theorem dX7_message_15 : decode cX7_message 15 = .ok (.iconst 0, 1) := by decide +kernel
theorem dX7_message_16 : decode cX7_message 16 = .ok (.aload_n 0, 1) := by decide +kernel
theorem dX7_message_17 : decode cX7_message 17 = .ok (.getfield 26, 3) := by decide +kernel
theorem dX7_message_20 : decode cX7_message 20 = .ok (.iload_n 1, 1) := by decide +kernel
theorem dX7_message_21 : decode cX7_message 21 = .ok (.iconst 4, 1) := by decide +kernel
theorem dX7_message_22 : decode cX7_message 22 = .ok (.imul, 1) := by decide +kernel
theorem dX7_message_23 : decode cX7_message 23 = .ok (.iload_n 2, 1) := by decide +kernel
theorem dX7_message_24 : decode cX7_message 24 = .ok (.iadd, 1) := by decide +kernel
theorem dX7_message_25 : decode cX7_message 25 = .ok (.iaload, 1) := by decide +kernel
theorem dX7_message_26 : decode cX7_message 26 = .ok (.iconst 1, 1) := by decide +kernel
theorem dX7_message_27 : decode cX7_message 27 = .ok (.isub, 1) := by decide +kernel
theorem dX7_message_28 : decode cX7_message 28 = .ok (.invokestatic 99, 3) := by decide +kernel
theorem dX7_message_31 : decode cX7_message 31 = .ok (.ifCond .ne 9, 3) := by decide +kernel
theorem dX7_message_34 : decode cX7_message 34 = .ok (.aload_n 0, 1) := by decide +kernel
theorem dX7_message_35 : decode cX7_message 35 = .ok (.iconst 1, 1) := by decide +kernel
theorem dX7_message_36 : decode cX7_message 36 = .ok (.invokevirtual 134, 3) := by decide +kernel
theorem dX7_message_39 : decode cX7_message 39 = .ok (.ireturn, 1) := by decide +kernel
theorem dX7_message_40 : decode cX7_message 40 = .ok (.iload 4, 2) := by decide +kernel
theorem dX7_message_42 : decode cX7_message 42 = .ok (.iconst 0, 1) := by decide +kernel
theorem dX7_message_43 : decode cX7_message 43 = .ok (.iconst 4, 1) := by decide +kernel
theorem dX7_message_44 : decode cX7_message 44 = .ok (.invokestatic 99, 3) := by decide +kernel
theorem dX7_message_47 : decode cX7_message 47 = .ok (.ifCond .eq 22, 3) := by decide +kernel
theorem dX7_message_50 : decode cX7_message 50 = .ok (.aload_n 0, 1) := by decide +kernel
theorem dX7_message_51 : decode cX7_message 51 = .ok (.aload_n 0, 1) := by decide +kernel
theorem dX7_message_52 : decode cX7_message 52 = .ok (.iload_n 1, 1) := by decide +kernel
theorem dX7_message_53 : decode cX7_message 53 = .ok (.iconst 4, 1) := by decide +kernel
theorem dX7_message_54 : decode cX7_message 54 = .ok (.imul, 1) := by decide +kernel
theorem dX7_message_55 : decode cX7_message 55 = .ok (.iload_n 2, 1) := by decide +kernel
theorem dX7_message_56 : decode cX7_message 56 = .ok (.iadd, 1) := by decide +kernel
theorem dX7_message_57 : decode cX7_message 57 = .ok (.iload_n 3, 1) := by decide +kernel
theorem dX7_message_58 : decode cX7_message 58 = .ok (.invokevirtual 113, 3) := by decide +kernel
theorem dX7_message_61 : decode cX7_message 61 = .ok (.iload 4, 2) := by decide +kernel
theorem dX7_message_63 : decode cX7_message 63 = .ok (.invokevirtual 185, 3) := by decide +kernel
theorem dX7_message_66 : decode cX7_message 66 = .ok (.goto 8, 3) := by decide +kernel
theorem dX7_message_69 : decode cX7_message 69 = .ok (.aload_n 0, 1) := by decide +kernel
theorem dX7_message_70 : decode cX7_message 70 = .ok (.iconst 2, 1) := by decide +kernel
theorem dX7_message_71 : decode cX7_message 71 = .ok (.invokevirtual 134, 3) := by decide +kernel
theorem dX7_message_74 : decode cX7_message 74 = .ok (.ireturn, 1) := by decide +kernel
theorem dX7_keptNow_0 : decode cX7_keptNow 0 = .ok (.iconst 0, 1) := by decide +kernel
theorem dX7_keptNow_1 : decode cX7_keptNow 1 = .ok (.istore_n 2, 1) := by decide +kernel
theorem dX7_keptNow_2 : decode cX7_keptNow 2 = .ok (.iconst 0, 1) := by decide +kernel
theorem dX7_keptNow_3 : decode cX7_keptNow 3 = .ok (.istore_n 3, 1) := by decide +kernel
theorem dX7_keptNow_4 : decode cX7_keptNow 4 = .ok (.iload_n 3, 1) := by decide +kernel
theorem dX7_keptNow_5 : decode cX7_keptNow 5 = .ok (.aload_n 0, 1) := by decide +kernel
theorem dX7_keptNow_6 : decode cX7_keptNow 6 = .ok (.getfield 140, 3) := by decide +kernel
theorem dX7_keptNow_9 : decode cX7_keptNow 9 = .ok (.if_icmp .ge 46, 3) := by decide +kernel
theorem dX7_keptNow_12 : decode cX7_keptNow 12 = .ok (.iload_n 2, 1) := by decide +kernel
theorem dX7_keptNow_13 : decode cX7_keptNow 13 = .ok (.aload_n 0, 1) := by decide +kernel
theorem dX7_keptNow_14 : decode cX7_keptNow 14 = .ok (.getfield 36, 3) := by decide +kernel
theorem dX7_keptNow_17 : decode cX7_keptNow 17 = .ok (.iload_n 3, 1) := by decide +kernel
theorem dX7_keptNow_18 : decode cX7_keptNow 18 = .ok (.iaload, 1) := by decide +kernel
theorem dX7_keptNow_19 : decode cX7_keptNow 19 = .ok (.iconst 4, 1) := by decide +kernel
theorem dX7_keptNow_20 : decode cX7_keptNow 20 = .ok (.idiv, 1) := by decide +kernel
theorem dX7_keptNow_21 : decode cX7_keptNow 21 = .ok (.iload_n 1, 1) := by decide +kernel
theorem dX7_keptNow_22 : decode cX7_keptNow 22 = .ok (.if_icmp .ne 24, 3) := by decide +kernel
theorem dX7_keptNow_25 : decode cX7_keptNow 25 = .ok (.aload_n 0, 1) := by decide +kernel
theorem dX7_keptNow_26 : decode cX7_keptNow 26 = .ok (.iload_n 3, 1) := by decide +kernel
theorem dX7_keptNow_27 : decode cX7_keptNow 27 = .ok (.invokevirtual 117, 3) := by decide +kernel
theorem dX7_keptNow_30 : decode cX7_keptNow 30 = .ok (.ifCond .ne 16, 3) := by decide +kernel
theorem dX7_keptNow_33 : decode cX7_keptNow 33 = .ok (.aload_n 0, 1) := by decide +kernel
theorem dX7_keptNow_34 : decode cX7_keptNow 34 = .ok (.getfield 54, 3) := by decide +kernel
theorem dX7_keptNow_37 : decode cX7_keptNow 37 = .ok (.iload_n 3, 1) := by decide +kernel
theorem dX7_keptNow_38 : decode cX7_keptNow 38 = .ok (.baload, 1) := by decide +kernel
theorem dX7_keptNow_39 : decode cX7_keptNow 39 = .ok (.ifCond .ne 7, 3) := by decide +kernel
theorem dX7_keptNow_42 : decode cX7_keptNow 42 = .ok (.iconst 1, 1) := by decide +kernel
theorem dX7_keptNow_43 : decode cX7_keptNow 43 = .ok (.goto 4, 3) := by decide +kernel
theorem dX7_keptNow_46 : decode cX7_keptNow 46 = .ok (.iconst 0, 1) := by decide +kernel
theorem dX7_keptNow_47 : decode cX7_keptNow 47 = .ok (.iadd, 1) := by decide +kernel
theorem dX7_keptNow_48 : decode cX7_keptNow 48 = .ok (.istore_n 2, 1) := by decide +kernel
theorem dX7_keptNow_49 : decode cX7_keptNow 49 = .ok (.iinc 3 1, 3) := by decide +kernel
theorem dX7_keptNow_52 : decode cX7_keptNow 52 = .ok (.goto (-48), 3) := by decide +kernel
theorem dX7_keptNow_55 : decode cX7_keptNow 55 = .ok (.iload_n 2, 1) := by decide +kernel
theorem dX7_keptNow_56 : decode cX7_keptNow 56 = .ok (.ireturn, 1) := by decide +kernel
theorem dX7_kept_0 : decode cX7_kept 0 = .ok (.aload_n 0, 1) := by decide +kernel
theorem dX7_kept_1 : decode cX7_kept 1 = .ok (.iconst 0, 1) := by decide +kernel
theorem dX7_kept_2 : decode cX7_kept 2 = .ok (.putfield 93, 3) := by decide +kernel
theorem dX7_kept_5 : decode cX7_kept 5 = .ok (.aload_n 0, 1) := by decide +kernel
theorem dX7_kept_6 : decode cX7_kept 6 = .ok (.iload_n 1, 1) := by decide +kernel
theorem dX7_kept_7 : decode cX7_kept 7 = .ok (.invokevirtual 103, 3) := by decide +kernel
theorem dX7_kept_10 : decode cX7_kept 10 = .ok (.ifCond .eq 11, 3) := by decide +kernel
theorem dX7_kept_13 : decode cX7_kept 13 = .ok (.aload_n 0, 1) := by decide +kernel
theorem dX7_kept_14 : decode cX7_kept 14 = .ok (.iload_n 1, 1) := by decide +kernel
theorem dX7_kept_15 : decode cX7_kept 15 = .ok (.invokevirtual 188, 3) := by decide +kernel
theorem dX7_kept_18 : decode cX7_kept 18 = .ok (.goto 8, 3) := by decide +kernel
theorem dX7_kept_21 : decode cX7_kept 21 = .ok (.aload_n 0, 1) := by decide +kernel
theorem dX7_kept_22 : decode cX7_kept 22 = .ok (.iconst 1, 1) := by decide +kernel
theorem dX7_kept_23 : decode cX7_kept 23 = .ok (.invokevirtual 134, 3) := by decide +kernel
theorem dX7_kept_26 : decode cX7_kept 26 = .ok (.ireturn, 1) := by decide +kernel
theorem dX7_whereOf_0 : decode cX7_whereOf 0 = .ok (.aload_n 0, 1) := by decide +kernel
theorem dX7_whereOf_1 : decode cX7_whereOf 1 = .ok (.getfield 66, 3) := by decide +kernel
theorem dX7_whereOf_4 : decode cX7_whereOf 4 = .ok (.iload_n 1, 1) := by decide +kernel
theorem dX7_whereOf_5 : decode cX7_whereOf 5 = .ok (.iaload, 1) := by decide +kernel
theorem dX7_whereOf_6 : decode cX7_whereOf 6 = .ok (.iconst 4, 1) := by decide +kernel
theorem dX7_whereOf_7 : decode cX7_whereOf 7 = .ok (.imul, 1) := by decide +kernel
theorem dX7_whereOf_8 : decode cX7_whereOf 8 = .ok (.iload_n 2, 1) := by decide +kernel
theorem dX7_whereOf_9 : decode cX7_whereOf 9 = .ok (.iadd, 1) := by decide +kernel
theorem dX7_whereOf_10 : decode cX7_whereOf 10 = .ok (.ireturn, 1) := by decide +kernel
theorem dX7_group_0 : decode cX7_group 0 = .ok (.aload_n 0, 1) := by decide +kernel
theorem dX7_group_1 : decode cX7_group 1 = .ok (.iconst 0, 1) := by decide +kernel
theorem dX7_group_2 : decode cX7_group 2 = .ok (.putfield 93, 3) := by decide +kernel
theorem dX7_group_5 : decode cX7_group 5 = .ok (.aload_n 0, 1) := by decide +kernel
theorem dX7_group_6 : decode cX7_group 6 = .ok (.iload_n 1, 1) := by decide +kernel
theorem dX7_group_7 : decode cX7_group 7 = .ok (.invokevirtual 103, 3) := by decide +kernel
theorem dX7_group_10 : decode cX7_group 10 = .ok (.ifCond .ne 9, 3) := by decide +kernel
theorem dX7_group_13 : decode cX7_group 13 = .ok (.aload_n 0, 1) := by decide +kernel
theorem dX7_group_14 : decode cX7_group 14 = .ok (.iconst 1, 1) := by decide +kernel
theorem dX7_group_15 : decode cX7_group 15 = .ok (.invokevirtual 134, 3) := by decide +kernel
theorem dX7_group_18 : decode cX7_group 18 = .ok (.ireturn, 1) := by decide +kernel
theorem dX7_group_19 : decode cX7_group 19 = .ok (.aload_n 0, 1) := by decide +kernel
theorem dX7_group_20 : decode cX7_group 20 = .ok (.getfield 107, 3) := by decide +kernel
theorem dX7_group_23 : decode cX7_group 23 = .ok (.iconst 4, 1) := by decide +kernel
theorem dX7_group_24 : decode cX7_group 24 = .ok (.if_icmp .ne 9, 3) := by decide +kernel
theorem dX7_group_27 : decode cX7_group 27 = .ok (.aload_n 0, 1) := by decide +kernel
theorem dX7_group_28 : decode cX7_group 28 = .ok (.iconst 2, 1) := by decide +kernel
theorem dX7_group_29 : decode cX7_group 29 = .ok (.invokevirtual 134, 3) := by decide +kernel
theorem dX7_group_32 : decode cX7_group 32 = .ok (.ireturn, 1) := by decide +kernel
theorem dX7_group_33 : decode cX7_group 33 = .ok (.aload_n 0, 1) := by decide +kernel
theorem dX7_group_34 : decode cX7_group 34 = .ok (.getfield 66, 3) := by decide +kernel
theorem dX7_group_37 : decode cX7_group 37 = .ok (.aload_n 0, 1) := by decide +kernel
theorem dX7_group_38 : decode cX7_group 38 = .ok (.getfield 107, 3) := by decide +kernel
theorem dX7_group_41 : decode cX7_group 41 = .ok (.iload_n 1, 1) := by decide +kernel
theorem dX7_group_42 : decode cX7_group 42 = .ok (.iastore, 1) := by decide +kernel
theorem dX7_group_43 : decode cX7_group 43 = .ok (.iconst 0, 1) := by decide +kernel
theorem dX7_group_44 : decode cX7_group 44 = .ok (.istore_n 2, 1) := by decide +kernel
theorem dX7_group_45 : decode cX7_group 45 = .ok (.iload_n 2, 1) := by decide +kernel
theorem dX7_group_46 : decode cX7_group 46 = .ok (.iconst 4, 1) := by decide +kernel
theorem dX7_group_47 : decode cX7_group 47 = .ok (.if_icmp .ge 72, 3) := by decide +kernel
theorem dX7_group_50 : decode cX7_group 50 = .ok (.aload_n 0, 1) := by decide +kernel
theorem dX7_group_51 : decode cX7_group 51 = .ok (.getfield 69, 3) := by decide +kernel
theorem dX7_group_54 : decode cX7_group 54 = .ok (.aload_n 0, 1) := by decide +kernel
theorem dX7_group_55 : decode cX7_group 55 = .ok (.getfield 107, 3) := by decide +kernel
theorem dX7_group_58 : decode cX7_group 58 = .ok (.iconst 4, 1) := by decide +kernel
theorem dX7_group_59 : decode cX7_group 59 = .ok (.imul, 1) := by decide +kernel
theorem dX7_group_60 : decode cX7_group 60 = .ok (.iload_n 2, 1) := by decide +kernel
theorem dX7_group_61 : decode cX7_group 61 = .ok (.iadd, 1) := by decide +kernel
theorem dX7_group_62 : decode cX7_group 62 = .ok (.aload_n 0, 1) := by decide +kernel
theorem dX7_group_63 : decode cX7_group 63 = .ok (.getfield 23, 3) := by decide +kernel
theorem dX7_group_66 : decode cX7_group 66 = .ok (.iload_n 1, 1) := by decide +kernel
theorem dX7_group_67 : decode cX7_group 67 = .ok (.iconst 4, 1) := by decide +kernel
theorem dX7_group_68 : decode cX7_group 68 = .ok (.imul, 1) := by decide +kernel
theorem dX7_group_69 : decode cX7_group 69 = .ok (.iload_n 2, 1) := by decide +kernel
theorem dX7_group_70 : decode cX7_group 70 = .ok (.iadd, 1) := by decide +kernel
theorem dX7_group_71 : decode cX7_group 71 = .ok (.iaload, 1) := by decide +kernel
theorem dX7_group_72 : decode cX7_group 72 = .ok (.iastore, 1) := by decide +kernel
theorem dX7_group_73 : decode cX7_group 73 = .ok (.aload_n 0, 1) := by decide +kernel
theorem dX7_group_74 : decode cX7_group 74 = .ok (.getfield 72, 3) := by decide +kernel
theorem dX7_group_77 : decode cX7_group 77 = .ok (.aload_n 0, 1) := by decide +kernel
theorem dX7_group_78 : decode cX7_group 78 = .ok (.getfield 107, 3) := by decide +kernel
theorem dX7_group_81 : decode cX7_group 81 = .ok (.iconst 4, 1) := by decide +kernel
theorem dX7_group_82 : decode cX7_group 82 = .ok (.imul, 1) := by decide +kernel
theorem dX7_group_83 : decode cX7_group 83 = .ok (.iload_n 2, 1) := by decide +kernel
theorem dX7_group_84 : decode cX7_group 84 = .ok (.iadd, 1) := by decide +kernel
theorem dX7_group_85 : decode cX7_group 85 = .ok (.aload_n 0, 1) := by decide +kernel
theorem dX7_group_86 : decode cX7_group 86 = .ok (.getfield 69, 3) := by decide +kernel
theorem dX7_group_89 : decode cX7_group 89 = .ok (.aload_n 0, 1) := by decide +kernel
theorem dX7_group_90 : decode cX7_group 90 = .ok (.getfield 107, 3) := by decide +kernel
theorem dX7_group_93 : decode cX7_group 93 = .ok (.iconst 4, 1) := by decide +kernel
theorem dX7_group_94 : decode cX7_group 94 = .ok (.imul, 1) := by decide +kernel
theorem dX7_group_95 : decode cX7_group 95 = .ok (.iload_n 2, 1) := by decide +kernel
theorem dX7_group_96 : decode cX7_group 96 = .ok (.iadd, 1) := by decide +kernel
theorem dX7_group_97 : decode cX7_group 97 = .ok (.iaload, 1) := by decide +kernel
theorem dX7_group_98 : decode cX7_group 98 = .ok (.iastore, 1) := by decide +kernel
theorem dX7_group_99 : decode cX7_group 99 = .ok (.aload_n 0, 1) := by decide +kernel
theorem dX7_group_100 : decode cX7_group 100 = .ok (.getfield 75, 3) := by decide +kernel
theorem dX7_group_103 : decode cX7_group 103 = .ok (.aload_n 0, 1) := by decide +kernel
theorem dX7_group_104 : decode cX7_group 104 = .ok (.getfield 107, 3) := by decide +kernel
theorem dX7_group_107 : decode cX7_group 107 = .ok (.iconst 4, 1) := by decide +kernel
theorem dX7_group_108 : decode cX7_group 108 = .ok (.imul, 1) := by decide +kernel
theorem dX7_group_109 : decode cX7_group 109 = .ok (.iload_n 2, 1) := by decide +kernel
theorem dX7_group_110 : decode cX7_group 110 = .ok (.iadd, 1) := by decide +kernel
theorem dX7_group_111 : decode cX7_group 111 = .ok (.iconst (-1), 1) := by decide +kernel
theorem dX7_group_112 : decode cX7_group 112 = .ok (.iastore, 1) := by decide +kernel
theorem dX7_group_113 : decode cX7_group 113 = .ok (.iinc 2 1, 3) := by decide +kernel
theorem dX7_group_116 : decode cX7_group 116 = .ok (.goto (-71), 3) := by decide +kernel
theorem dX7_group_119 : decode cX7_group 119 = .ok (.aload_n 0, 1) := by decide +kernel
theorem dX7_group_120 : decode cX7_group 120 = .ok (.dup, 1) := by decide +kernel
theorem dX7_group_121 : decode cX7_group 121 = .ok (.getfield 107, 3) := by decide +kernel
theorem dX7_group_124 : decode cX7_group 124 = .ok (.iconst 1, 1) := by decide +kernel
theorem dX7_group_125 : decode cX7_group 125 = .ok (.iadd, 1) := by decide +kernel
theorem dX7_group_126 : decode cX7_group 126 = .ok (.putfield 107, 3) := by decide +kernel
theorem dX7_group_129 : decode cX7_group 129 = .ok (.aload_n 0, 1) := by decide +kernel
theorem dX7_group_130 : decode cX7_group 130 = .ok (.invokevirtual 146, 3) := by decide +kernel
theorem dX7_group_133 : decode cX7_group 133 = .ok (.aload_n 0, 1) := by decide +kernel
theorem dX7_group_134 : decode cX7_group 134 = .ok (.getfield 107, 3) := by decide +kernel
theorem dX7_group_137 : decode cX7_group 137 = .ok (.iconst 1, 1) := by decide +kernel
theorem dX7_group_138 : decode cX7_group 138 = .ok (.isub, 1) := by decide +kernel
theorem dX7_group_139 : decode cX7_group 139 = .ok (.ireturn, 1) := by decide +kernel
theorem dX7_shares_0 : decode cX7_shares 0 = .ok (.iconst 4, 1) := by decide +kernel
theorem dX7_shares_1 : decode cX7_shares 1 = .ok (.newarray .int, 2) := by decide +kernel
theorem dX7_shares_3 : decode cX7_shares 3 = .ok (.astore_n 2, 1) := by decide +kernel
theorem dX7_shares_4 : decode cX7_shares 4 = .ok (.aload_n 0, 1) := by decide +kernel
theorem dX7_shares_5 : decode cX7_shares 5 = .ok (.getfield 16, 3) := by decide +kernel
theorem dX7_shares_8 : decode cX7_shares 8 = .ok (.aload_n 0, 1) := by decide +kernel
theorem dX7_shares_9 : decode cX7_shares 9 = .ok (.getfield 66, 3) := by decide +kernel
theorem dX7_shares_12 : decode cX7_shares 12 = .ok (.iload_n 1, 1) := by decide +kernel
theorem dX7_shares_13 : decode cX7_shares 13 = .ok (.iaload, 1) := by decide +kernel
theorem dX7_shares_14 : decode cX7_shares 14 = .ok (.iaload, 1) := by decide +kernel
theorem dX7_shares_15 : decode cX7_shares 15 = .ok (.istore_n 3, 1) := by decide +kernel
theorem dX7_shares_16 : decode cX7_shares 16 = .ok (.iconst 0, 1) := by decide +kernel
theorem dX7_shares_17 : decode cX7_shares 17 = .ok (.istore 4, 2) := by decide +kernel
theorem dX7_shares_19 : decode cX7_shares 19 = .ok (.iconst 0, 1) := by decide +kernel
theorem dX7_shares_20 : decode cX7_shares 20 = .ok (.istore 5, 2) := by decide +kernel
theorem dX7_shares_22 : decode cX7_shares 22 = .ok (.iload 5, 2) := by decide +kernel
theorem dX7_shares_24 : decode cX7_shares 24 = .ok (.bipush 6, 2) := by decide +kernel
theorem dX7_shares_26 : decode cX7_shares 26 = .ok (.if_icmp .ge 34, 3) := by decide +kernel
theorem dX7_shares_29 : decode cX7_shares 29 = .ok (.iload 4, 2) := by decide +kernel
theorem dX7_shares_31 : decode cX7_shares 31 = .ok (.aload_n 0, 1) := by decide +kernel
theorem dX7_shares_32 : decode cX7_shares 32 = .ok (.getfield 78, 3) := by decide +kernel
theorem dX7_shares_35 : decode cX7_shares 35 = .ok (.iload_n 1, 1) := by decide +kernel
theorem dX7_shares_36 : decode cX7_shares 36 = .ok (.bipush 6, 2) := by decide +kernel
theorem dX7_shares_38 : decode cX7_shares 38 = .ok (.imul, 1) := by decide +kernel
theorem dX7_shares_39 : decode cX7_shares 39 = .ok (.iload 5, 2) := by decide +kernel
theorem dX7_shares_41 : decode cX7_shares 41 = .ok (.iadd, 1) := by decide +kernel
theorem dX7_shares_42 : decode cX7_shares 42 = .ok (.baload, 1) := by decide +kernel
theorem dX7_shares_43 : decode cX7_shares 43 = .ok (.ifCond .eq 7, 3) := by decide +kernel
theorem dX7_shares_46 : decode cX7_shares 46 = .ok (.iconst 1, 1) := by decide +kernel
theorem dX7_shares_47 : decode cX7_shares 47 = .ok (.goto 4, 3) := by decide +kernel
theorem dX7_shares_50 : decode cX7_shares 50 = .ok (.iconst 0, 1) := by decide +kernel
theorem dX7_shares_51 : decode cX7_shares 51 = .ok (.iadd, 1) := by decide +kernel
theorem dX7_shares_52 : decode cX7_shares 52 = .ok (.istore 4, 2) := by decide +kernel
theorem dX7_shares_54 : decode cX7_shares 54 = .ok (.iinc 5 1, 3) := by decide +kernel
theorem dX7_shares_57 : decode cX7_shares 57 = .ok (.goto (-35), 3) := by decide +kernel
theorem dX7_shares_60 : decode cX7_shares 60 = .ok (.iconst 0, 1) := by decide +kernel
theorem dX7_shares_61 : decode cX7_shares 61 = .ok (.istore 5, 2) := by decide +kernel
theorem dX7_shares_63 : decode cX7_shares 63 = .ok (.iload 5, 2) := by decide +kernel
theorem dX7_shares_65 : decode cX7_shares 65 = .ok (.iconst 4, 1) := by decide +kernel
theorem dX7_shares_66 : decode cX7_shares 66 = .ok (.if_icmp .ge 14, 3) := by decide +kernel
theorem dX7_shares_69 : decode cX7_shares 69 = .ok (.aload_n 2, 1) := by decide +kernel
theorem dX7_shares_70 : decode cX7_shares 70 = .ok (.iload 5, 2) := by decide +kernel
theorem dX7_shares_72 : decode cX7_shares 72 = .ok (.iconst (-1), 1) := by decide +kernel
theorem dX7_shares_73 : decode cX7_shares 73 = .ok (.iastore, 1) := by decide +kernel
theorem dX7_shares_74 : decode cX7_shares 74 = .ok (.iinc 5 1, 3) := by decide +kernel
theorem dX7_shares_77 : decode cX7_shares 77 = .ok (.goto (-14), 3) := by decide +kernel
theorem dX7_shares_80 : decode cX7_shares 80 = .ok (.iconst 0, 1) := by decide +kernel
theorem dX7_shares_81 : decode cX7_shares 81 = .ok (.istore 5, 2) := by decide +kernel
theorem dX7_shares_83 : decode cX7_shares 83 = .ok (.iconst 0, 1) := by decide +kernel
theorem dX7_shares_84 : decode cX7_shares 84 = .ok (.istore 6, 2) := by decide +kernel
theorem dX7_shares_86 : decode cX7_shares 86 = .ok (.iconst 0, 1) := by decide +kernel
theorem dX7_shares_87 : decode cX7_shares 87 = .ok (.istore 7, 2) := by decide +kernel
theorem dX7_shares_89 : decode cX7_shares 89 = .ok (.iload 7, 2) := by decide +kernel
theorem dX7_shares_91 : decode cX7_shares 91 = .ok (.bipush 6, 2) := by decide +kernel
theorem dX7_shares_93 : decode cX7_shares 93 = .ok (.if_icmp .ge 76, 3) := by decide +kernel
theorem dX7_shares_96 : decode cX7_shares 96 = .ok (.aload_n 0, 1) := by decide +kernel
theorem dX7_shares_97 : decode cX7_shares 97 = .ok (.getfield 78, 3) := by decide +kernel
theorem dX7_shares_100 : decode cX7_shares 100 = .ok (.iload_n 1, 1) := by decide +kernel
theorem dX7_shares_101 : decode cX7_shares 101 = .ok (.bipush 6, 2) := by decide +kernel
theorem dX7_shares_103 : decode cX7_shares 103 = .ok (.imul, 1) := by decide +kernel
theorem dX7_shares_104 : decode cX7_shares 104 = .ok (.iload 7, 2) := by decide +kernel
theorem dX7_shares_106 : decode cX7_shares 106 = .ok (.iadd, 1) := by decide +kernel
theorem dX7_shares_107 : decode cX7_shares 107 = .ok (.baload, 1) := by decide +kernel
theorem dX7_shares_108 : decode cX7_shares 108 = .ok (.ifCond .ne 6, 3) := by decide +kernel
theorem dX7_shares_111 : decode cX7_shares 111 = .ok (.goto 52, 3) := by decide +kernel
theorem dX7_shares_114 : decode cX7_shares 114 = .ok (.iload_n 3, 1) := by decide +kernel
theorem dX7_shares_115 : decode cX7_shares 115 = .ok (.iload 4, 2) := by decide +kernel
theorem dX7_shares_117 : decode cX7_shares 117 = .ok (.idiv, 1) := by decide +kernel
theorem dX7_shares_118 : decode cX7_shares 118 = .ok (.iload 6, 2) := by decide +kernel
theorem dX7_shares_120 : decode cX7_shares 120 = .ok (.iload_n 3, 1) := by decide +kernel
theorem dX7_shares_121 : decode cX7_shares 121 = .ok (.iload 4, 2) := by decide +kernel
theorem dX7_shares_123 : decode cX7_shares 123 = .ok (.irem, 1) := by decide +kernel
theorem dX7_shares_124 : decode cX7_shares 124 = .ok (.if_icmp .ge 7, 3) := by decide +kernel
theorem dX7_shares_127 : decode cX7_shares 127 = .ok (.iconst 1, 1) := by decide +kernel
theorem dX7_shares_128 : decode cX7_shares 128 = .ok (.goto 4, 3) := by decide +kernel
theorem dX7_shares_131 : decode cX7_shares 131 = .ok (.iconst 0, 1) := by decide +kernel
theorem dX7_shares_132 : decode cX7_shares 132 = .ok (.iadd, 1) := by decide +kernel
theorem dX7_shares_133 : decode cX7_shares 133 = .ok (.istore 8, 2) := by decide +kernel
theorem dX7_shares_135 : decode cX7_shares 135 = .ok (.iconst 0, 1) := by decide +kernel
theorem dX7_shares_136 : decode cX7_shares 136 = .ok (.istore 9, 2) := by decide +kernel
theorem dX7_shares_138 : decode cX7_shares 138 = .ok (.iload 9, 2) := by decide +kernel
theorem dX7_shares_140 : decode cX7_shares 140 = .ok (.iload 8, 2) := by decide +kernel
theorem dX7_shares_142 : decode cX7_shares 142 = .ok (.if_icmp .ge 18, 3) := by decide +kernel
theorem dX7_shares_145 : decode cX7_shares 145 = .ok (.aload_n 2, 1) := by decide +kernel
theorem dX7_shares_146 : decode cX7_shares 146 = .ok (.iload 5, 2) := by decide +kernel
theorem dX7_shares_148 : decode cX7_shares 148 = .ok (.iinc 5 1, 3) := by decide +kernel
theorem dX7_shares_151 : decode cX7_shares 151 = .ok (.iload 7, 2) := by decide +kernel
theorem dX7_shares_153 : decode cX7_shares 153 = .ok (.iastore, 1) := by decide +kernel
theorem dX7_shares_154 : decode cX7_shares 154 = .ok (.iinc 9 1, 3) := by decide +kernel
theorem dX7_shares_157 : decode cX7_shares 157 = .ok (.goto (-19), 3) := by decide +kernel
theorem dX7_shares_160 : decode cX7_shares 160 = .ok (.iinc 6 1, 3) := by decide +kernel
theorem dX7_shares_163 : decode cX7_shares 163 = .ok (.iinc 7 1, 3) := by decide +kernel
theorem dX7_shares_166 : decode cX7_shares 166 = .ok (.goto (-77), 3) := by decide +kernel
theorem dX7_shares_169 : decode cX7_shares 169 = .ok (.aload_n 2, 1) := by decide +kernel
theorem dX7_shares_170 : decode cX7_shares 170 = .ok (.areturn, 1) := by decide +kernel
theorem dX7_join_0 : decode cX7_join 0 = .ok (.aload_n 0, 1) := by decide +kernel
theorem dX7_join_1 : decode cX7_join 1 = .ok (.iconst 0, 1) := by decide +kernel
theorem dX7_join_2 : decode cX7_join 2 = .ok (.putfield 93, 3) := by decide +kernel
theorem dX7_join_5 : decode cX7_join 5 = .ok (.aload_n 0, 1) := by decide +kernel
theorem dX7_join_6 : decode cX7_join 6 = .ok (.iload_n 1, 1) := by decide +kernel
theorem dX7_join_7 : decode cX7_join 7 = .ok (.invokevirtual 110, 3) := by decide +kernel
theorem dX7_join_10 : decode cX7_join 10 = .ok (.ifCond .eq 10, 3) := by decide +kernel
theorem dX7_join_13 : decode cX7_join 13 = .ok (.iload_n 2, 1) := by decide +kernel
theorem dX7_join_14 : decode cX7_join 14 = .ok (.invokestatic 191, 3) := by decide +kernel
theorem dX7_join_17 : decode cX7_join 17 = .ok (.ifCond .ne 9, 3) := by decide +kernel
theorem dX7_join_20 : decode cX7_join 20 = .ok (.aload_n 0, 1) := by decide +kernel
theorem dX7_join_21 : decode cX7_join 21 = .ok (.iconst 1, 1) := by decide +kernel
theorem dX7_join_22 : decode cX7_join 22 = .ok (.invokevirtual 194, 3) := by decide +kernel
theorem dX7_join_25 : decode cX7_join 25 = .ok (.ireturn, 1) := by decide +kernel
theorem dX7_join_26 : decode cX7_join 26 = .ok (.aload_n 0, 1) := by decide +kernel
theorem dX7_join_27 : decode cX7_join 27 = .ok (.getfield 78, 3) := by decide +kernel
theorem dX7_join_30 : decode cX7_join 30 = .ok (.iload_n 1, 1) := by decide +kernel
theorem dX7_join_31 : decode cX7_join 31 = .ok (.bipush 6, 2) := by decide +kernel
theorem dX7_join_33 : decode cX7_join 33 = .ok (.imul, 1) := by decide +kernel
theorem dX7_join_34 : decode cX7_join 34 = .ok (.iload_n 2, 1) := by decide +kernel
theorem dX7_join_35 : decode cX7_join 35 = .ok (.iadd, 1) := by decide +kernel
theorem dX7_join_36 : decode cX7_join 36 = .ok (.baload, 1) := by decide +kernel
theorem dX7_join_37 : decode cX7_join 37 = .ok (.istore 4, 2) := by decide +kernel
theorem dX7_join_39 : decode cX7_join 39 = .ok (.iload 4, 2) := by decide +kernel
theorem dX7_join_41 : decode cX7_join 41 = .ok (.iload_n 3, 1) := by decide +kernel
theorem dX7_join_42 : decode cX7_join 42 = .ok (.if_icmp .ne 6, 3) := by decide +kernel
theorem dX7_join_45 : decode cX7_join 45 = .ok (.iload 4, 2) := by decide +kernel
theorem dX7_join_47 : decode cX7_join 47 = .ok (.ireturn, 1) := by decide +kernel
theorem dX7_join_48 : decode cX7_join 48 = .ok (.aload_n 0, 1) := by decide +kernel
theorem dX7_join_49 : decode cX7_join 49 = .ok (.getfield 78, 3) := by decide +kernel
theorem dX7_join_52 : decode cX7_join 52 = .ok (.iload_n 1, 1) := by decide +kernel
theorem dX7_join_53 : decode cX7_join 53 = .ok (.bipush 6, 2) := by decide +kernel
theorem dX7_join_55 : decode cX7_join 55 = .ok (.imul, 1) := by decide +kernel
theorem dX7_join_56 : decode cX7_join 56 = .ok (.iload_n 2, 1) := by decide +kernel
theorem dX7_join_57 : decode cX7_join 57 = .ok (.iadd, 1) := by decide +kernel
theorem dX7_join_58 : decode cX7_join 58 = .ok (.iload_n 3, 1) := by decide +kernel
theorem dX7_join_59 : decode cX7_join 59 = .ok (.bastore, 1) := by decide +kernel
theorem dX7_join_60 : decode cX7_join 60 = .ok (.aload_n 0, 1) := by decide +kernel
theorem dX7_join_61 : decode cX7_join 61 = .ok (.iload_n 1, 1) := by decide +kernel
theorem dX7_join_62 : decode cX7_join 62 = .ok (.invokevirtual 197, 3) := by decide +kernel
theorem dX7_join_65 : decode cX7_join 65 = .ok (.astore 5, 2) := by decide +kernel
theorem dX7_join_67 : decode cX7_join 67 = .ok (.iconst 0, 1) := by decide +kernel
theorem dX7_join_68 : decode cX7_join 68 = .ok (.istore 6, 2) := by decide +kernel
theorem dX7_join_70 : decode cX7_join 70 = .ok (.iload 6, 2) := by decide +kernel
theorem dX7_join_72 : decode cX7_join 72 = .ok (.aload_n 0, 1) := by decide +kernel
theorem dX7_join_73 : decode cX7_join 73 = .ok (.getfield 16, 3) := by decide +kernel
theorem dX7_join_76 : decode cX7_join 76 = .ok (.aload_n 0, 1) := by decide +kernel
theorem dX7_join_77 : decode cX7_join 77 = .ok (.getfield 66, 3) := by decide +kernel
theorem dX7_join_80 : decode cX7_join 80 = .ok (.iload_n 1, 1) := by decide +kernel
theorem dX7_join_81 : decode cX7_join 81 = .ok (.iaload, 1) := by decide +kernel
theorem dX7_join_82 : decode cX7_join 82 = .ok (.iaload, 1) := by decide +kernel
theorem dX7_join_83 : decode cX7_join 83 = .ok (.if_icmp .ge 126, 3) := by decide +kernel
theorem dX7_join_86 : decode cX7_join 86 = .ok (.iload_n 1, 1) := by decide +kernel
theorem dX7_join_87 : decode cX7_join 87 = .ok (.iconst 4, 1) := by decide +kernel
theorem dX7_join_88 : decode cX7_join 88 = .ok (.imul, 1) := by decide +kernel
theorem dX7_join_89 : decode cX7_join 89 = .ok (.iload 6, 2) := by decide +kernel
theorem dX7_join_91 : decode cX7_join 91 = .ok (.iadd, 1) := by decide +kernel
theorem dX7_join_92 : decode cX7_join 92 = .ok (.istore 7, 2) := by decide +kernel
theorem dX7_join_94 : decode cX7_join 94 = .ok (.aload_n 0, 1) := by decide +kernel
theorem dX7_join_95 : decode cX7_join 95 = .ok (.getfield 75, 3) := by decide +kernel
theorem dX7_join_98 : decode cX7_join 98 = .ok (.iload 7, 2) := by decide +kernel
theorem dX7_join_100 : decode cX7_join 100 = .ok (.iaload, 1) := by decide +kernel
theorem dX7_join_101 : decode cX7_join 101 = .ok (.aload 5, 2) := by decide +kernel
theorem dX7_join_103 : decode cX7_join 103 = .ok (.iload 6, 2) := by decide +kernel
theorem dX7_join_105 : decode cX7_join 105 = .ok (.iaload, 1) := by decide +kernel
theorem dX7_join_106 : decode cX7_join 106 = .ok (.if_icmp .ne 6, 3) := by decide +kernel
theorem dX7_join_109 : decode cX7_join 109 = .ok (.goto 94, 3) := by decide +kernel
theorem dX7_join_112 : decode cX7_join 112 = .ok (.aload_n 0, 1) := by decide +kernel
theorem dX7_join_113 : decode cX7_join 113 = .ok (.getfield 75, 3) := by decide +kernel
theorem dX7_join_116 : decode cX7_join 116 = .ok (.iload 7, 2) := by decide +kernel
theorem dX7_join_118 : decode cX7_join 118 = .ok (.aload 5, 2) := by decide +kernel
theorem dX7_join_120 : decode cX7_join 120 = .ok (.iload 6, 2) := by decide +kernel
theorem dX7_join_122 : decode cX7_join 122 = .ok (.iaload, 1) := by decide +kernel
theorem dX7_join_123 : decode cX7_join 123 = .ok (.iastore, 1) := by decide +kernel
theorem dX7_join_124 : decode cX7_join 124 = .ok (.aload_n 0, 1) := by decide +kernel
theorem dX7_join_125 : decode cX7_join 125 = .ok (.iload_n 1, 1) := by decide +kernel
theorem dX7_join_126 : decode cX7_join 126 = .ok (.iload 6, 2) := by decide +kernel
theorem dX7_join_128 : decode cX7_join 128 = .ok (.invokevirtual 201, 3) := by decide +kernel
theorem dX7_join_131 : decode cX7_join 131 = .ok (.istore 8, 2) := by decide +kernel
theorem dX7_join_133 : decode cX7_join 133 = .ok (.iconst 0, 1) := by decide +kernel
theorem dX7_join_134 : decode cX7_join 134 = .ok (.istore 9, 2) := by decide +kernel
theorem dX7_join_136 : decode cX7_join 136 = .ok (.iload 9, 2) := by decide +kernel
theorem dX7_join_138 : decode cX7_join 138 = .ok (.aload_n 0, 1) := by decide +kernel
theorem dX7_join_139 : decode cX7_join 139 = .ok (.getfield 26, 3) := by decide +kernel
theorem dX7_join_142 : decode cX7_join 142 = .ok (.iload 8, 2) := by decide +kernel
theorem dX7_join_144 : decode cX7_join 144 = .ok (.iaload, 1) := by decide +kernel
theorem dX7_join_145 : decode cX7_join 145 = .ok (.if_icmp .ge 44, 3) := by decide +kernel
theorem dX7_join_148 : decode cX7_join 148 = .ok (.aload_n 0, 1) := by decide +kernel
theorem dX7_join_149 : decode cX7_join 149 = .ok (.getfield 81, 3) := by decide +kernel
theorem dX7_join_152 : decode cX7_join 152 = .ok (.iload_n 1, 1) := by decide +kernel
theorem dX7_join_153 : decode cX7_join 153 = .ok (.bipush 80, 2) := by decide +kernel
theorem dX7_join_155 : decode cX7_join 155 = .ok (.imul, 1) := by decide +kernel
theorem dX7_join_156 : decode cX7_join 156 = .ok (.aload_n 0, 1) := by decide +kernel
theorem dX7_join_157 : decode cX7_join 157 = .ok (.iload 8, 2) := by decide +kernel
theorem dX7_join_159 : decode cX7_join 159 = .ok (.iload 9, 2) := by decide +kernel
theorem dX7_join_161 : decode cX7_join 161 = .ok (.invokevirtual 113, 3) := by decide +kernel
theorem dX7_join_164 : decode cX7_join 164 = .ok (.iadd, 1) := by decide +kernel
theorem dX7_join_165 : decode cX7_join 165 = .ok (.iaload, 1) := by decide +kernel
theorem dX7_join_166 : decode cX7_join 166 = .ok (.iconst 1, 1) := by decide +kernel
theorem dX7_join_167 : decode cX7_join 167 = .ok (.if_icmp .ne 16, 3) := by decide +kernel
theorem dX7_join_170 : decode cX7_join 170 = .ok (.aload_n 0, 1) := by decide +kernel
theorem dX7_join_171 : decode cX7_join 171 = .ok (.iload_n 1, 1) := by decide +kernel
theorem dX7_join_172 : decode cX7_join 172 = .ok (.aload_n 0, 1) := by decide +kernel
theorem dX7_join_173 : decode cX7_join 173 = .ok (.iload 8, 2) := by decide +kernel
theorem dX7_join_175 : decode cX7_join 175 = .ok (.iload 9, 2) := by decide +kernel
theorem dX7_join_177 : decode cX7_join 177 = .ok (.invokevirtual 113, 3) := by decide +kernel
theorem dX7_join_180 : decode cX7_join 180 = .ok (.invokevirtual 130, 3) := by decide +kernel
theorem dX7_join_183 : decode cX7_join 183 = .ok (.iinc 9 1, 3) := by decide +kernel
theorem dX7_join_186 : decode cX7_join 186 = .ok (.goto (-50), 3) := by decide +kernel
theorem dX7_join_189 : decode cX7_join 189 = .ok (.aload_n 0, 1) := by decide +kernel
theorem dX7_join_190 : decode cX7_join 190 = .ok (.getfield 72, 3) := by decide +kernel
theorem dX7_join_193 : decode cX7_join 193 = .ok (.iload 7, 2) := by decide +kernel
theorem dX7_join_195 : decode cX7_join 195 = .ok (.aload_n 0, 1) := by decide +kernel
theorem dX7_join_196 : decode cX7_join 196 = .ok (.getfield 69, 3) := by decide +kernel
theorem dX7_join_199 : decode cX7_join 199 = .ok (.iload 7, 2) := by decide +kernel
theorem dX7_join_201 : decode cX7_join 201 = .ok (.iaload, 1) := by decide +kernel
theorem dX7_join_202 : decode cX7_join 202 = .ok (.iastore, 1) := by decide +kernel
theorem dX7_join_203 : decode cX7_join 203 = .ok (.iinc 6 1, 3) := by decide +kernel
theorem dX7_join_206 : decode cX7_join 206 = .ok (.goto (-136), 3) := by decide +kernel
theorem dX7_join_209 : decode cX7_join 209 = .ok (.aload_n 0, 1) := by decide +kernel
theorem dX7_join_210 : decode cX7_join 210 = .ok (.invokevirtual 146, 3) := by decide +kernel
theorem dX7_join_213 : decode cX7_join 213 = .ok (.iload 4, 2) := by decide +kernel
theorem dX7_join_215 : decode cX7_join 215 = .ok (.ireturn, 1) := by decide +kernel
theorem dX7_gives_0 : decode cX7_gives 0 = .ok (.aload_n 0, 1) := by decide +kernel
theorem dX7_gives_1 : decode cX7_gives 1 = .ok (.iload_n 1, 1) := by decide +kernel
theorem dX7_gives_2 : decode cX7_gives 2 = .ok (.iload_n 2, 1) := by decide +kernel
theorem dX7_gives_3 : decode cX7_gives 3 = .ok (.invokevirtual 201, 3) := by decide +kernel
theorem dX7_gives_6 : decode cX7_gives 6 = .ok (.istore_n 3, 1) := by decide +kernel
theorem dX7_gives_7 : decode cX7_gives 7 = .ok (.aload_n 0, 1) := by decide +kernel
theorem dX7_gives_8 : decode cX7_gives 8 = .ok (.iload_n 3, 1) := by decide +kernel
theorem dX7_gives_9 : decode cX7_gives 9 = .ok (.invokevirtual 158, 3) := by decide +kernel
theorem dX7_gives_12 : decode cX7_gives 12 = .ok (.istore 4, 2) := by decide +kernel
theorem dX7_gives_14 : decode cX7_gives 14 = .ok (.aload_n 0, 1) := by decide +kernel
theorem dX7_gives_15 : decode cX7_gives 15 = .ok (.getfield 69, 3) := by decide +kernel
theorem dX7_gives_18 : decode cX7_gives 18 = .ok (.iload_n 1, 1) := by decide +kernel
theorem dX7_gives_19 : decode cX7_gives 19 = .ok (.iconst 4, 1) := by decide +kernel
theorem dX7_gives_20 : decode cX7_gives 20 = .ok (.imul, 1) := by decide +kernel
theorem dX7_gives_21 : decode cX7_gives 21 = .ok (.iload_n 2, 1) := by decide +kernel
theorem dX7_gives_22 : decode cX7_gives 22 = .ok (.iadd, 1) := by decide +kernel
theorem dX7_gives_23 : decode cX7_gives 23 = .ok (.iaload, 1) := by decide +kernel
theorem dX7_gives_24 : decode cX7_gives 24 = .ok (.istore 5, 2) := by decide +kernel
theorem dX7_gives_26 : decode cX7_gives 26 = .ok (.iload 5, 2) := by decide +kernel
theorem dX7_gives_28 : decode cX7_gives 28 = .ok (.aload_n 0, 1) := by decide +kernel
theorem dX7_gives_29 : decode cX7_gives 29 = .ok (.getfield 26, 3) := by decide +kernel
theorem dX7_gives_32 : decode cX7_gives 32 = .ok (.iload_n 3, 1) := by decide +kernel
theorem dX7_gives_33 : decode cX7_gives 33 = .ok (.iaload, 1) := by decide +kernel
theorem dX7_gives_34 : decode cX7_gives 34 = .ok (.if_icmp .ge 56, 3) := by decide +kernel
theorem dX7_gives_37 : decode cX7_gives 37 = .ok (.iload_n 1, 1) := by decide +kernel
theorem dX7_gives_38 : decode cX7_gives 38 = .ok (.bipush 80, 2) := by decide +kernel
theorem dX7_gives_40 : decode cX7_gives 40 = .ok (.imul, 1) := by decide +kernel
theorem dX7_gives_41 : decode cX7_gives 41 = .ok (.aload_n 0, 1) := by decide +kernel
theorem dX7_gives_42 : decode cX7_gives 42 = .ok (.iload_n 3, 1) := by decide +kernel
theorem dX7_gives_43 : decode cX7_gives 43 = .ok (.iload 5, 2) := by decide +kernel
theorem dX7_gives_45 : decode cX7_gives 45 = .ok (.invokevirtual 113, 3) := by decide +kernel
theorem dX7_gives_48 : decode cX7_gives 48 = .ok (.iadd, 1) := by decide +kernel
theorem dX7_gives_49 : decode cX7_gives 49 = .ok (.istore 6, 2) := by decide +kernel
theorem dX7_gives_51 : decode cX7_gives 51 = .ok (.aload_n 0, 1) := by decide +kernel
theorem dX7_gives_52 : decode cX7_gives 52 = .ok (.getfield 81, 3) := by decide +kernel
theorem dX7_gives_55 : decode cX7_gives 55 = .ok (.iload 6, 2) := by decide +kernel
theorem dX7_gives_57 : decode cX7_gives 57 = .ok (.iaload, 1) := by decide +kernel
theorem dX7_gives_58 : decode cX7_gives 58 = .ok (.iconst 2, 1) := by decide +kernel
theorem dX7_gives_59 : decode cX7_gives 59 = .ok (.if_icmp .ne 25, 3) := by decide +kernel
theorem dX7_gives_62 : decode cX7_gives 62 = .ok (.aload_n 0, 1) := by decide +kernel
theorem dX7_gives_63 : decode cX7_gives 63 = .ok (.getfield 87, 3) := by decide +kernel
theorem dX7_gives_66 : decode cX7_gives 66 = .ok (.iload 6, 2) := by decide +kernel
theorem dX7_gives_68 : decode cX7_gives 68 = .ok (.iaload, 1) := by decide +kernel
theorem dX7_gives_69 : decode cX7_gives 69 = .ok (.aload_n 0, 1) := by decide +kernel
theorem dX7_gives_70 : decode cX7_gives 70 = .ok (.getfield 143, 3) := by decide +kernel
theorem dX7_gives_73 : decode cX7_gives 73 = .ok (.if_icmp .gt 11, 3) := by decide +kernel
theorem dX7_gives_76 : decode cX7_gives 76 = .ok (.aload_n 0, 1) := by decide +kernel
theorem dX7_gives_77 : decode cX7_gives 77 = .ok (.iload_n 3, 1) := by decide +kernel
theorem dX7_gives_78 : decode cX7_gives 78 = .ok (.iload 5, 2) := by decide +kernel
theorem dX7_gives_80 : decode cX7_gives 80 = .ok (.invokevirtual 113, 3) := by decide +kernel
theorem dX7_gives_83 : decode cX7_gives 83 = .ok (.ireturn, 1) := by decide +kernel
theorem dX7_gives_84 : decode cX7_gives 84 = .ok (.iinc 5 1, 3) := by decide +kernel
theorem dX7_gives_87 : decode cX7_gives 87 = .ok (.goto (-61), 3) := by decide +kernel
theorem dX7_gives_90 : decode cX7_gives 90 = .ok (.aload_n 0, 1) := by decide +kernel
theorem dX7_gives_91 : decode cX7_gives 91 = .ok (.getfield 72, 3) := by decide +kernel
theorem dX7_gives_94 : decode cX7_gives 94 = .ok (.iload_n 1, 1) := by decide +kernel
theorem dX7_gives_95 : decode cX7_gives 95 = .ok (.iconst 4, 1) := by decide +kernel
theorem dX7_gives_96 : decode cX7_gives 96 = .ok (.imul, 1) := by decide +kernel
theorem dX7_gives_97 : decode cX7_gives 97 = .ok (.iload_n 2, 1) := by decide +kernel
theorem dX7_gives_98 : decode cX7_gives 98 = .ok (.iadd, 1) := by decide +kernel
theorem dX7_gives_99 : decode cX7_gives 99 = .ok (.iaload, 1) := by decide +kernel
theorem dX7_gives_100 : decode cX7_gives 100 = .ok (.istore 5, 2) := by decide +kernel
theorem dX7_gives_102 : decode cX7_gives 102 = .ok (.iload 5, 2) := by decide +kernel
theorem dX7_gives_104 : decode cX7_gives 104 = .ok (.iload 4, 2) := by decide +kernel
theorem dX7_gives_106 : decode cX7_gives 106 = .ok (.if_icmp .ge 55, 3) := by decide +kernel
theorem dX7_gives_109 : decode cX7_gives 109 = .ok (.aload_n 0, 1) := by decide +kernel
theorem dX7_gives_110 : decode cX7_gives 110 = .ok (.iload_n 3, 1) := by decide +kernel
theorem dX7_gives_111 : decode cX7_gives 111 = .ok (.iload 5, 2) := by decide +kernel
theorem dX7_gives_113 : decode cX7_gives 113 = .ok (.invokevirtual 113, 3) := by decide +kernel
theorem dX7_gives_116 : decode cX7_gives 116 = .ok (.istore 6, 2) := by decide +kernel
theorem dX7_gives_118 : decode cX7_gives 118 = .ok (.aload_n 0, 1) := by decide +kernel
theorem dX7_gives_119 : decode cX7_gives 119 = .ok (.iload 6, 2) := by decide +kernel
theorem dX7_gives_121 : decode cX7_gives 121 = .ok (.invokevirtual 117, 3) := by decide +kernel
theorem dX7_gives_124 : decode cX7_gives 124 = .ok (.ifCond .ne 31, 3) := by decide +kernel
theorem dX7_gives_127 : decode cX7_gives 127 = .ok (.aload_n 0, 1) := by decide +kernel
theorem dX7_gives_128 : decode cX7_gives 128 = .ok (.getfield 54, 3) := by decide +kernel
theorem dX7_gives_131 : decode cX7_gives 131 = .ok (.iload 6, 2) := by decide +kernel
theorem dX7_gives_133 : decode cX7_gives 133 = .ok (.baload, 1) := by decide +kernel
theorem dX7_gives_134 : decode cX7_gives 134 = .ok (.ifCond .ne 21, 3) := by decide +kernel
theorem dX7_gives_137 : decode cX7_gives 137 = .ok (.aload_n 0, 1) := by decide +kernel
theorem dX7_gives_138 : decode cX7_gives 138 = .ok (.getfield 81, 3) := by decide +kernel
theorem dX7_gives_141 : decode cX7_gives 141 = .ok (.iload_n 1, 1) := by decide +kernel
theorem dX7_gives_142 : decode cX7_gives 142 = .ok (.bipush 80, 2) := by decide +kernel
theorem dX7_gives_144 : decode cX7_gives 144 = .ok (.imul, 1) := by decide +kernel
theorem dX7_gives_145 : decode cX7_gives 145 = .ok (.iload 6, 2) := by decide +kernel
theorem dX7_gives_147 : decode cX7_gives 147 = .ok (.iadd, 1) := by decide +kernel
theorem dX7_gives_148 : decode cX7_gives 148 = .ok (.iaload, 1) := by decide +kernel
theorem dX7_gives_149 : decode cX7_gives 149 = .ok (.ifCond .ne 6, 3) := by decide +kernel
theorem dX7_gives_152 : decode cX7_gives 152 = .ok (.iload 6, 2) := by decide +kernel
theorem dX7_gives_154 : decode cX7_gives 154 = .ok (.ireturn, 1) := by decide +kernel
theorem dX7_gives_155 : decode cX7_gives 155 = .ok (.iinc 5 1, 3) := by decide +kernel
theorem dX7_gives_158 : decode cX7_gives 158 = .ok (.goto (-56), 3) := by decide +kernel
theorem dX7_gives_161 : decode cX7_gives 161 = .ok (.iconst (-1), 1) := by decide +kernel
theorem dX7_gives_162 : decode cX7_gives 162 = .ok (.ireturn, 1) := by decide +kernel
theorem dX7_givesTo_0 : decode cX7_givesTo 0 = .ok (.iconst 0, 1) := by decide +kernel
theorem dX7_givesTo_1 : decode cX7_givesTo 1 = .ok (.istore_n 3, 1) := by decide +kernel
theorem dX7_givesTo_2 : decode cX7_givesTo 2 = .ok (.iload_n 3, 1) := by decide +kernel
theorem dX7_givesTo_3 : decode cX7_givesTo 3 = .ok (.aload_n 0, 1) := by decide +kernel
theorem dX7_givesTo_4 : decode cX7_givesTo 4 = .ok (.getfield 16, 3) := by decide +kernel
theorem dX7_givesTo_7 : decode cX7_givesTo 7 = .ok (.aload_n 0, 1) := by decide +kernel
theorem dX7_givesTo_8 : decode cX7_givesTo 8 = .ok (.getfield 66, 3) := by decide +kernel
theorem dX7_givesTo_11 : decode cX7_givesTo 11 = .ok (.iload_n 1, 1) := by decide +kernel
theorem dX7_givesTo_12 : decode cX7_givesTo 12 = .ok (.iaload, 1) := by decide +kernel
theorem dX7_givesTo_13 : decode cX7_givesTo 13 = .ok (.iaload, 1) := by decide +kernel
theorem dX7_givesTo_14 : decode cX7_givesTo 14 = .ok (.if_icmp .ge 40, 3) := by decide +kernel
theorem dX7_givesTo_17 : decode cX7_givesTo 17 = .ok (.aload_n 0, 1) := by decide +kernel
theorem dX7_givesTo_18 : decode cX7_givesTo 18 = .ok (.getfield 75, 3) := by decide +kernel
theorem dX7_givesTo_21 : decode cX7_givesTo 21 = .ok (.iload_n 1, 1) := by decide +kernel
theorem dX7_givesTo_22 : decode cX7_givesTo 22 = .ok (.iconst 4, 1) := by decide +kernel
theorem dX7_givesTo_23 : decode cX7_givesTo 23 = .ok (.imul, 1) := by decide +kernel
theorem dX7_givesTo_24 : decode cX7_givesTo 24 = .ok (.iload_n 3, 1) := by decide +kernel
theorem dX7_givesTo_25 : decode cX7_givesTo 25 = .ok (.iadd, 1) := by decide +kernel
theorem dX7_givesTo_26 : decode cX7_givesTo 26 = .ok (.iaload, 1) := by decide +kernel
theorem dX7_givesTo_27 : decode cX7_givesTo 27 = .ok (.iload_n 2, 1) := by decide +kernel
theorem dX7_givesTo_28 : decode cX7_givesTo 28 = .ok (.if_icmp .ne 20, 3) := by decide +kernel
theorem dX7_givesTo_31 : decode cX7_givesTo 31 = .ok (.aload_n 0, 1) := by decide +kernel
theorem dX7_givesTo_32 : decode cX7_givesTo 32 = .ok (.iload_n 1, 1) := by decide +kernel
theorem dX7_givesTo_33 : decode cX7_givesTo 33 = .ok (.iload_n 3, 1) := by decide +kernel
theorem dX7_givesTo_34 : decode cX7_givesTo 34 = .ok (.invokevirtual 204, 3) := by decide +kernel
theorem dX7_givesTo_37 : decode cX7_givesTo 37 = .ok (.iconst (-1), 1) := by decide +kernel
theorem dX7_givesTo_38 : decode cX7_givesTo 38 = .ok (.if_icmp .eq 10, 3) := by decide +kernel
theorem dX7_givesTo_41 : decode cX7_givesTo 41 = .ok (.aload_n 0, 1) := by decide +kernel
theorem dX7_givesTo_42 : decode cX7_givesTo 42 = .ok (.iload_n 1, 1) := by decide +kernel
theorem dX7_givesTo_43 : decode cX7_givesTo 43 = .ok (.iload_n 3, 1) := by decide +kernel
theorem dX7_givesTo_44 : decode cX7_givesTo 44 = .ok (.invokevirtual 204, 3) := by decide +kernel
theorem dX7_givesTo_47 : decode cX7_givesTo 47 = .ok (.ireturn, 1) := by decide +kernel
theorem dX7_givesTo_48 : decode cX7_givesTo 48 = .ok (.iinc 3 1, 3) := by decide +kernel
theorem dX7_givesTo_51 : decode cX7_givesTo 51 = .ok (.goto (-49), 3) := by decide +kernel
theorem dX7_givesTo_54 : decode cX7_givesTo 54 = .ok (.iconst (-1), 1) := by decide +kernel
theorem dX7_givesTo_55 : decode cX7_givesTo 55 = .ok (.ireturn, 1) := by decide +kernel
theorem dX7_told_0 : decode cX7_told 0 = .ok (.bipush 100, 2) := by decide +kernel
theorem dX7_told_2 : decode cX7_told 2 = .ok (.iload_n 0, 1) := by decide +kernel
theorem dX7_told_3 : decode cX7_told 3 = .ok (.iconst 4, 1) := by decide +kernel
theorem dX7_told_4 : decode cX7_told 4 = .ok (.irem, 1) := by decide +kernel
theorem dX7_told_5 : decode cX7_told 5 = .ok (.imul, 1) := by decide +kernel
theorem dX7_told_6 : decode cX7_told 6 = .ok (.iload_n 1, 1) := by decide +kernel
theorem dX7_told_7 : decode cX7_told 7 = .ok (.iadd, 1) := by decide +kernel
theorem dX7_told_8 : decode cX7_told 8 = .ok (.ireturn, 1) := by decide +kernel
theorem dX7_write_0 : decode cX7_write 0 = .ok (.aload_n 0, 1) := by decide +kernel
theorem dX7_write_1 : decode cX7_write 1 = .ok (.getfield 207, 3) := by decide +kernel
theorem dX7_write_4 : decode cX7_write 4 = .ok (.sipush 200, 3) := by decide +kernel
theorem dX7_write_7 : decode cX7_write 7 = .ok (.if_icmp .ne 4, 3) := by decide +kernel
theorem dX7_write_10 : decode cX7_write 10 = .ok (.return_, 1) := by decide +kernel
theorem dX7_write_11 : decode cX7_write 11 = .ok (.iconst 5, 1) := by decide +kernel
theorem dX7_write_12 : decode cX7_write 12 = .ok (.newarray .int, 2) := by decide +kernel
theorem dX7_write_14 : decode cX7_write 14 = .ok (.dup, 1) := by decide +kernel
theorem dX7_write_15 : decode cX7_write 15 = .ok (.iconst 0, 1) := by decide +kernel
theorem dX7_write_16 : decode cX7_write 16 = .ok (.iload_n 1, 1) := by decide +kernel
theorem dX7_write_17 : decode cX7_write 17 = .ok (.iastore, 1) := by decide +kernel
theorem dX7_write_18 : decode cX7_write 18 = .ok (.dup, 1) := by decide +kernel
theorem dX7_write_19 : decode cX7_write 19 = .ok (.iconst 1, 1) := by decide +kernel
theorem dX7_write_20 : decode cX7_write 20 = .ok (.iload_n 2, 1) := by decide +kernel
theorem dX7_write_21 : decode cX7_write 21 = .ok (.iastore, 1) := by decide +kernel
theorem dX7_write_22 : decode cX7_write 22 = .ok (.dup, 1) := by decide +kernel
theorem dX7_write_23 : decode cX7_write 23 = .ok (.iconst 2, 1) := by decide +kernel
theorem dX7_write_24 : decode cX7_write 24 = .ok (.aload_n 0, 1) := by decide +kernel
theorem dX7_write_25 : decode cX7_write 25 = .ok (.getfield 36, 3) := by decide +kernel
theorem dX7_write_28 : decode cX7_write 28 = .ok (.iload_n 3, 1) := by decide +kernel
theorem dX7_write_29 : decode cX7_write 29 = .ok (.iaload, 1) := by decide +kernel
theorem dX7_write_30 : decode cX7_write 30 = .ok (.iconst 4, 1) := by decide +kernel
theorem dX7_write_31 : decode cX7_write 31 = .ok (.irem, 1) := by decide +kernel
theorem dX7_write_32 : decode cX7_write 32 = .ok (.iastore, 1) := by decide +kernel
theorem dX7_write_33 : decode cX7_write 33 = .ok (.dup, 1) := by decide +kernel
theorem dX7_write_34 : decode cX7_write 34 = .ok (.iconst 3, 1) := by decide +kernel
theorem dX7_write_35 : decode cX7_write 35 = .ok (.aload_n 0, 1) := by decide +kernel
theorem dX7_write_36 : decode cX7_write 36 = .ok (.getfield 39, 3) := by decide +kernel
theorem dX7_write_39 : decode cX7_write 39 = .ok (.iload_n 3, 1) := by decide +kernel
theorem dX7_write_40 : decode cX7_write 40 = .ok (.iaload, 1) := by decide +kernel
theorem dX7_write_41 : decode cX7_write 41 = .ok (.iastore, 1) := by decide +kernel
theorem dX7_write_42 : decode cX7_write 42 = .ok (.dup, 1) := by decide +kernel
theorem dX7_write_43 : decode cX7_write 43 = .ok (.iconst 4, 1) := by decide +kernel
theorem dX7_write_44 : decode cX7_write 44 = .ok (.aload_n 0, 1) := by decide +kernel
theorem dX7_write_45 : decode cX7_write 45 = .ok (.getfield 143, 3) := by decide +kernel
theorem dX7_write_48 : decode cX7_write 48 = .ok (.iastore, 1) := by decide +kernel
theorem dX7_write_49 : decode cX7_write 49 = .ok (.astore 4, 2) := by decide +kernel
theorem dX7_write_51 : decode cX7_write 51 = .ok (.aload 4, 2) := by decide +kernel
theorem dX7_write_53 : decode cX7_write 53 = .ok (.iconst 0, 1) := by decide +kernel
theorem dX7_write_54 : decode cX7_write 54 = .ok (.aload_n 0, 1) := by decide +kernel
theorem dX7_write_55 : decode cX7_write 55 = .ok (.getfield 90, 3) := by decide +kernel
theorem dX7_write_58 : decode cX7_write 58 = .ok (.aload_n 0, 1) := by decide +kernel
theorem dX7_write_59 : decode cX7_write 59 = .ok (.getfield 207, 3) := by decide +kernel
theorem dX7_write_62 : decode cX7_write 62 = .ok (.iconst 5, 1) := by decide +kernel
theorem dX7_write_63 : decode cX7_write 63 = .ok (.imul, 1) := by decide +kernel
theorem dX7_write_64 : decode cX7_write 64 = .ok (.iconst 5, 1) := by decide +kernel
theorem dX7_write_65 : decode cX7_write 65 = .ok (.invokestatic 152, 3) := by decide +kernel
theorem dX7_write_68 : decode cX7_write 68 = .ok (.aload_n 0, 1) := by decide +kernel
theorem dX7_write_69 : decode cX7_write 69 = .ok (.dup, 1) := by decide +kernel
theorem dX7_write_70 : decode cX7_write 70 = .ok (.getfield 207, 3) := by decide +kernel
theorem dX7_write_73 : decode cX7_write 73 = .ok (.iconst 1, 1) := by decide +kernel
theorem dX7_write_74 : decode cX7_write 74 = .ok (.iadd, 1) := by decide +kernel
theorem dX7_write_75 : decode cX7_write 75 = .ok (.putfield 207, 3) := by decide +kernel
theorem dX7_write_78 : decode cX7_write 78 = .ok (.return_, 1) := by decide +kernel
theorem dX7_take_0 : decode cX7_take 0 = .ok (.aload_n 0, 1) := by decide +kernel
theorem dX7_take_1 : decode cX7_take 1 = .ok (.iconst 0, 1) := by decide +kernel
theorem dX7_take_2 : decode cX7_take 2 = .ok (.putfield 93, 3) := by decide +kernel
theorem dX7_take_5 : decode cX7_take 5 = .ok (.aload_n 0, 1) := by decide +kernel
theorem dX7_take_6 : decode cX7_take 6 = .ok (.iload_n 1, 1) := by decide +kernel
theorem dX7_take_7 : decode cX7_take 7 = .ok (.invokevirtual 110, 3) := by decide +kernel
theorem dX7_take_10 : decode cX7_take 10 = .ok (.ifCond .eq 10, 3) := by decide +kernel
theorem dX7_take_13 : decode cX7_take 13 = .ok (.iload_n 2, 1) := by decide +kernel
theorem dX7_take_14 : decode cX7_take 14 = .ok (.invokestatic 191, 3) := by decide +kernel
theorem dX7_take_17 : decode cX7_take 17 = .ok (.ifCond .ne 9, 3) := by decide +kernel
theorem dX7_take_20 : decode cX7_take 20 = .ok (.aload_n 0, 1) := by decide +kernel
theorem dX7_take_21 : decode cX7_take 21 = .ok (.iconst 1, 1) := by decide +kernel
theorem dX7_take_22 : decode cX7_take 22 = .ok (.invokevirtual 134, 3) := by decide +kernel
theorem dX7_take_25 : decode cX7_take 25 = .ok (.ireturn, 1) := by decide +kernel
theorem dX7_take_26 : decode cX7_take 26 = .ok (.aload_n 0, 1) := by decide +kernel
theorem dX7_take_27 : decode cX7_take 27 = .ok (.getfield 78, 3) := by decide +kernel
theorem dX7_take_30 : decode cX7_take 30 = .ok (.iload_n 1, 1) := by decide +kernel
theorem dX7_take_31 : decode cX7_take 31 = .ok (.bipush 6, 2) := by decide +kernel
theorem dX7_take_33 : decode cX7_take 33 = .ok (.imul, 1) := by decide +kernel
theorem dX7_take_34 : decode cX7_take 34 = .ok (.iload_n 2, 1) := by decide +kernel
theorem dX7_take_35 : decode cX7_take 35 = .ok (.iadd, 1) := by decide +kernel
theorem dX7_take_36 : decode cX7_take 36 = .ok (.baload, 1) := by decide +kernel
theorem dX7_take_37 : decode cX7_take 37 = .ok (.ifCond .ne 9, 3) := by decide +kernel
theorem dX7_take_40 : decode cX7_take 40 = .ok (.aload_n 0, 1) := by decide +kernel
theorem dX7_take_41 : decode cX7_take 41 = .ok (.iconst 2, 1) := by decide +kernel
theorem dX7_take_42 : decode cX7_take 42 = .ok (.invokevirtual 134, 3) := by decide +kernel
theorem dX7_take_45 : decode cX7_take 45 = .ok (.ireturn, 1) := by decide +kernel
theorem dX7_take_46 : decode cX7_take 46 = .ok (.aload_n 0, 1) := by decide +kernel
theorem dX7_take_47 : decode cX7_take 47 = .ok (.iload_n 1, 1) := by decide +kernel
theorem dX7_take_48 : decode cX7_take 48 = .ok (.iload_n 2, 1) := by decide +kernel
theorem dX7_take_49 : decode cX7_take 49 = .ok (.invokevirtual 210, 3) := by decide +kernel
theorem dX7_take_52 : decode cX7_take 52 = .ok (.istore_n 3, 1) := by decide +kernel
theorem dX7_take_53 : decode cX7_take 53 = .ok (.iload_n 3, 1) := by decide +kernel
theorem dX7_take_54 : decode cX7_take 54 = .ok (.iconst (-1), 1) := by decide +kernel
theorem dX7_take_55 : decode cX7_take 55 = .ok (.if_icmp .ne 5, 3) := by decide +kernel
theorem dX7_take_58 : decode cX7_take 58 = .ok (.iconst (-1), 1) := by decide +kernel
theorem dX7_take_59 : decode cX7_take 59 = .ok (.ireturn, 1) := by decide +kernel
theorem dX7_take_60 : decode cX7_take 60 = .ok (.iload_n 1, 1) := by decide +kernel
theorem dX7_take_61 : decode cX7_take 61 = .ok (.bipush 80, 2) := by decide +kernel
theorem dX7_take_63 : decode cX7_take 63 = .ok (.imul, 1) := by decide +kernel
theorem dX7_take_64 : decode cX7_take 64 = .ok (.iload_n 3, 1) := by decide +kernel
theorem dX7_take_65 : decode cX7_take 65 = .ok (.iadd, 1) := by decide +kernel
theorem dX7_take_66 : decode cX7_take 66 = .ok (.istore 4, 2) := by decide +kernel
theorem dX7_take_68 : decode cX7_take 68 = .ok (.aload_n 0, 1) := by decide +kernel
theorem dX7_take_69 : decode cX7_take 69 = .ok (.getfield 81, 3) := by decide +kernel
theorem dX7_take_72 : decode cX7_take 72 = .ok (.iload 4, 2) := by decide +kernel
theorem dX7_take_74 : decode cX7_take 74 = .ok (.iaload, 1) := by decide +kernel
theorem dX7_take_75 : decode cX7_take 75 = .ok (.ifCond .ne 28, 3) := by decide +kernel
theorem dX7_take_78 : decode cX7_take 78 = .ok (.aload_n 0, 1) := by decide +kernel
theorem dX7_take_79 : decode cX7_take 79 = .ok (.getfield 72, 3) := by decide +kernel
theorem dX7_take_82 : decode cX7_take 82 = .ok (.iload_n 1, 1) := by decide +kernel
theorem dX7_take_83 : decode cX7_take 83 = .ok (.iconst 4, 1) := by decide +kernel
theorem dX7_take_84 : decode cX7_take 84 = .ok (.imul, 1) := by decide +kernel
theorem dX7_take_85 : decode cX7_take 85 = .ok (.aload_n 0, 1) := by decide +kernel
theorem dX7_take_86 : decode cX7_take 86 = .ok (.getfield 36, 3) := by decide +kernel
theorem dX7_take_89 : decode cX7_take 89 = .ok (.iload_n 3, 1) := by decide +kernel
theorem dX7_take_90 : decode cX7_take 90 = .ok (.iaload, 1) := by decide +kernel
theorem dX7_take_91 : decode cX7_take 91 = .ok (.iconst 4, 1) := by decide +kernel
theorem dX7_take_92 : decode cX7_take 92 = .ok (.irem, 1) := by decide +kernel
theorem dX7_take_93 : decode cX7_take 93 = .ok (.iadd, 1) := by decide +kernel
theorem dX7_take_94 : decode cX7_take 94 = .ok (.aload_n 0, 1) := by decide +kernel
theorem dX7_take_95 : decode cX7_take 95 = .ok (.getfield 39, 3) := by decide +kernel
theorem dX7_take_98 : decode cX7_take 98 = .ok (.iload_n 3, 1) := by decide +kernel
theorem dX7_take_99 : decode cX7_take 99 = .ok (.iaload, 1) := by decide +kernel
theorem dX7_take_100 : decode cX7_take 100 = .ok (.iconst 1, 1) := by decide +kernel
theorem dX7_take_101 : decode cX7_take 101 = .ok (.iadd, 1) := by decide +kernel
theorem dX7_take_102 : decode cX7_take 102 = .ok (.iastore, 1) := by decide +kernel
theorem dX7_take_103 : decode cX7_take 103 = .ok (.aload_n 0, 1) := by decide +kernel
theorem dX7_take_104 : decode cX7_take 104 = .ok (.getfield 81, 3) := by decide +kernel
theorem dX7_take_107 : decode cX7_take 107 = .ok (.iload 4, 2) := by decide +kernel
theorem dX7_take_109 : decode cX7_take 109 = .ok (.iconst 1, 1) := by decide +kernel
theorem dX7_take_110 : decode cX7_take 110 = .ok (.iastore, 1) := by decide +kernel
theorem dX7_take_111 : decode cX7_take 111 = .ok (.aload_n 0, 1) := by decide +kernel
theorem dX7_take_112 : decode cX7_take 112 = .ok (.getfield 84, 3) := by decide +kernel
theorem dX7_take_115 : decode cX7_take 115 = .ok (.iload 4, 2) := by decide +kernel
theorem dX7_take_117 : decode cX7_take 117 = .ok (.dup2, 1) := by decide +kernel
theorem dX7_take_118 : decode cX7_take 118 = .ok (.iaload, 1) := by decide +kernel
theorem dX7_take_119 : decode cX7_take 119 = .ok (.iconst 1, 1) := by decide +kernel
theorem dX7_take_120 : decode cX7_take 120 = .ok (.iadd, 1) := by decide +kernel
theorem dX7_take_121 : decode cX7_take 121 = .ok (.iastore, 1) := by decide +kernel
theorem dX7_take_122 : decode cX7_take 122 = .ok (.aload_n 0, 1) := by decide +kernel
theorem dX7_take_123 : decode cX7_take 123 = .ok (.getfield 87, 3) := by decide +kernel
theorem dX7_take_126 : decode cX7_take 126 = .ok (.iload 4, 2) := by decide +kernel
theorem dX7_take_128 : decode cX7_take 128 = .ok (.aload_n 0, 1) := by decide +kernel
theorem dX7_take_129 : decode cX7_take 129 = .ok (.getfield 143, 3) := by decide +kernel
theorem dX7_take_132 : decode cX7_take 132 = .ok (.iastore, 1) := by decide +kernel
theorem dX7_take_133 : decode cX7_take 133 = .ok (.aload_n 0, 1) := by decide +kernel
theorem dX7_take_134 : decode cX7_take 134 = .ok (.iconst 0, 1) := by decide +kernel
theorem dX7_take_135 : decode cX7_take 135 = .ok (.iload_n 1, 1) := by decide +kernel
theorem dX7_take_136 : decode cX7_take 136 = .ok (.iload_n 3, 1) := by decide +kernel
theorem dX7_take_137 : decode cX7_take 137 = .ok (.invokevirtual 213, 3) := by decide +kernel
theorem dX7_take_140 : decode cX7_take 140 = .ok (.aload_n 0, 1) := by decide +kernel
theorem dX7_take_141 : decode cX7_take 141 = .ok (.invokevirtual 146, 3) := by decide +kernel
theorem dX7_take_144 : decode cX7_take 144 = .ok (.aload_n 0, 1) := by decide +kernel
theorem dX7_take_145 : decode cX7_take 145 = .ok (.getfield 36, 3) := by decide +kernel
theorem dX7_take_148 : decode cX7_take 148 = .ok (.iload_n 3, 1) := by decide +kernel
theorem dX7_take_149 : decode cX7_take 149 = .ok (.iaload, 1) := by decide +kernel
theorem dX7_take_150 : decode cX7_take 150 = .ok (.aload_n 0, 1) := by decide +kernel
theorem dX7_take_151 : decode cX7_take 151 = .ok (.getfield 39, 3) := by decide +kernel
theorem dX7_take_154 : decode cX7_take 154 = .ok (.iload_n 3, 1) := by decide +kernel
theorem dX7_take_155 : decode cX7_take 155 = .ok (.iaload, 1) := by decide +kernel
theorem dX7_take_156 : decode cX7_take 156 = .ok (.invokestatic 217, 3) := by decide +kernel
theorem dX7_take_159 : decode cX7_take 159 = .ok (.ireturn, 1) := by decide +kernel
theorem dX7_answered_0 : decode cX7_answered 0 = .ok (.aload_n 0, 1) := by decide +kernel
theorem dX7_answered_1 : decode cX7_answered 1 = .ok (.iload_n 1, 1) := by decide +kernel
theorem dX7_answered_2 : decode cX7_answered 2 = .ok (.iload_n 2, 1) := by decide +kernel
theorem dX7_answered_3 : decode cX7_answered 3 = .ok (.invokevirtual 220, 3) := by decide +kernel
theorem dX7_answered_6 : decode cX7_answered 6 = .ok (.ifCond .ne 5, 3) := by decide +kernel
theorem dX7_answered_9 : decode cX7_answered 9 = .ok (.iconst 1, 1) := by decide +kernel
theorem dX7_answered_10 : decode cX7_answered 10 = .ok (.ireturn, 1) := by decide +kernel
theorem dX7_answered_11 : decode cX7_answered 11 = .ok (.aload_n 0, 1) := by decide +kernel
theorem dX7_answered_12 : decode cX7_answered 12 = .ok (.iload_n 1, 1) := by decide +kernel
theorem dX7_answered_13 : decode cX7_answered 13 = .ok (.iload_n 2, 1) := by decide +kernel
theorem dX7_answered_14 : decode cX7_answered 14 = .ok (.invokevirtual 201, 3) := by decide +kernel
theorem dX7_answered_17 : decode cX7_answered 17 = .ok (.istore 4, 2) := by decide +kernel
theorem dX7_answered_19 : decode cX7_answered 19 = .ok (.iload_n 3, 1) := by decide +kernel
theorem dX7_answered_20 : decode cX7_answered 20 = .ok (.iconst 0, 1) := by decide +kernel
theorem dX7_answered_21 : decode cX7_answered 21 = .ok (.aload_n 0, 1) := by decide +kernel
theorem dX7_answered_22 : decode cX7_answered 22 = .ok (.getfield 26, 3) := by decide +kernel
theorem dX7_answered_25 : decode cX7_answered 25 = .ok (.iload 4, 2) := by decide +kernel
theorem dX7_answered_27 : decode cX7_answered 27 = .ok (.iaload, 1) := by decide +kernel
theorem dX7_answered_28 : decode cX7_answered 28 = .ok (.iconst 1, 1) := by decide +kernel
theorem dX7_answered_29 : decode cX7_answered 29 = .ok (.isub, 1) := by decide +kernel
theorem dX7_answered_30 : decode cX7_answered 30 = .ok (.invokestatic 99, 3) := by decide +kernel
theorem dX7_answered_33 : decode cX7_answered 33 = .ok (.ifCond .eq 28, 3) := by decide +kernel
theorem dX7_answered_36 : decode cX7_answered 36 = .ok (.aload_n 0, 1) := by decide +kernel
theorem dX7_answered_37 : decode cX7_answered 37 = .ok (.getfield 81, 3) := by decide +kernel
theorem dX7_answered_40 : decode cX7_answered 40 = .ok (.iload_n 1, 1) := by decide +kernel
theorem dX7_answered_41 : decode cX7_answered 41 = .ok (.bipush 80, 2) := by decide +kernel
theorem dX7_answered_43 : decode cX7_answered 43 = .ok (.imul, 1) := by decide +kernel
theorem dX7_answered_44 : decode cX7_answered 44 = .ok (.aload_n 0, 1) := by decide +kernel
theorem dX7_answered_45 : decode cX7_answered 45 = .ok (.iload 4, 2) := by decide +kernel
theorem dX7_answered_47 : decode cX7_answered 47 = .ok (.iload_n 3, 1) := by decide +kernel
theorem dX7_answered_48 : decode cX7_answered 48 = .ok (.invokevirtual 113, 3) := by decide +kernel
theorem dX7_answered_51 : decode cX7_answered 51 = .ok (.iadd, 1) := by decide +kernel
theorem dX7_answered_52 : decode cX7_answered 52 = .ok (.iaload, 1) := by decide +kernel
theorem dX7_answered_53 : decode cX7_answered 53 = .ok (.iconst 1, 1) := by decide +kernel
theorem dX7_answered_54 : decode cX7_answered 54 = .ok (.if_icmp .ne 7, 3) := by decide +kernel
theorem dX7_answered_57 : decode cX7_answered 57 = .ok (.iconst 0, 1) := by decide +kernel
theorem dX7_answered_58 : decode cX7_answered 58 = .ok (.goto 4, 3) := by decide +kernel
theorem dX7_answered_61 : decode cX7_answered 61 = .ok (.iconst 2, 1) := by decide +kernel
theorem dX7_answered_62 : decode cX7_answered 62 = .ok (.ireturn, 1) := by decide +kernel
theorem dX7_ack_0 : decode cX7_ack 0 = .ok (.aload_n 0, 1) := by decide +kernel
theorem dX7_ack_1 : decode cX7_ack 1 = .ok (.aload_n 0, 1) := by decide +kernel
theorem dX7_ack_2 : decode cX7_ack 2 = .ok (.iload_n 1, 1) := by decide +kernel
theorem dX7_ack_3 : decode cX7_ack 3 = .ok (.iload_n 2, 1) := by decide +kernel
theorem dX7_ack_4 : decode cX7_ack 4 = .ok (.iload_n 3, 1) := by decide +kernel
theorem dX7_ack_5 : decode cX7_ack 5 = .ok (.invokevirtual 223, 3) := by decide +kernel
theorem dX7_ack_8 : decode cX7_ack 8 = .ok (.putfield 93, 3) := by decide +kernel
theorem dX7_ack_11 : decode cX7_ack 11 = .ok (.aload_n 0, 1) := by decide +kernel
theorem dX7_ack_12 : decode cX7_ack 12 = .ok (.getfield 93, 3) := by decide +kernel
theorem dX7_ack_15 : decode cX7_ack 15 = .ok (.ifCond .eq 5, 3) := by decide +kernel
theorem dX7_ack_18 : decode cX7_ack 18 = .ok (.iconst 0, 1) := by decide +kernel
theorem dX7_ack_19 : decode cX7_ack 19 = .ok (.ireturn, 1) := by decide +kernel
theorem dX7_ack_20 : decode cX7_ack 20 = .ok (.aload_n 0, 1) := by decide +kernel
theorem dX7_ack_21 : decode cX7_ack 21 = .ok (.aload_n 0, 1) := by decide +kernel
theorem dX7_ack_22 : decode cX7_ack 22 = .ok (.iload_n 1, 1) := by decide +kernel
theorem dX7_ack_23 : decode cX7_ack 23 = .ok (.iload_n 2, 1) := by decide +kernel
theorem dX7_ack_24 : decode cX7_ack 24 = .ok (.invokevirtual 201, 3) := by decide +kernel
theorem dX7_ack_27 : decode cX7_ack 27 = .ok (.iload_n 3, 1) := by decide +kernel
theorem dX7_ack_28 : decode cX7_ack 28 = .ok (.invokevirtual 113, 3) := by decide +kernel
theorem dX7_ack_31 : decode cX7_ack 31 = .ok (.istore 4, 2) := by decide +kernel
theorem dX7_ack_33 : decode cX7_ack 33 = .ok (.aload_n 0, 1) := by decide +kernel
theorem dX7_ack_34 : decode cX7_ack 34 = .ok (.getfield 81, 3) := by decide +kernel
theorem dX7_ack_37 : decode cX7_ack 37 = .ok (.iload_n 1, 1) := by decide +kernel
theorem dX7_ack_38 : decode cX7_ack 38 = .ok (.bipush 80, 2) := by decide +kernel
theorem dX7_ack_40 : decode cX7_ack 40 = .ok (.imul, 1) := by decide +kernel
theorem dX7_ack_41 : decode cX7_ack 41 = .ok (.iload 4, 2) := by decide +kernel
theorem dX7_ack_43 : decode cX7_ack 43 = .ok (.iadd, 1) := by decide +kernel
theorem dX7_ack_44 : decode cX7_ack 44 = .ok (.iconst 3, 1) := by decide +kernel
theorem dX7_ack_45 : decode cX7_ack 45 = .ok (.iastore, 1) := by decide +kernel
theorem dX7_ack_46 : decode cX7_ack 46 = .ok (.aload_n 0, 1) := by decide +kernel
theorem dX7_ack_47 : decode cX7_ack 47 = .ok (.iconst 1, 1) := by decide +kernel
theorem dX7_ack_48 : decode cX7_ack 48 = .ok (.iload_n 1, 1) := by decide +kernel
theorem dX7_ack_49 : decode cX7_ack 49 = .ok (.iload 4, 2) := by decide +kernel
theorem dX7_ack_51 : decode cX7_ack 51 = .ok (.invokevirtual 213, 3) := by decide +kernel
theorem dX7_ack_54 : decode cX7_ack 54 = .ok (.aload_n 0, 1) := by decide +kernel
theorem dX7_ack_55 : decode cX7_ack 55 = .ok (.invokevirtual 146, 3) := by decide +kernel
theorem dX7_ack_58 : decode cX7_ack 58 = .ok (.aload_n 0, 1) := by decide +kernel
theorem dX7_ack_59 : decode cX7_ack 59 = .ok (.getfield 69, 3) := by decide +kernel
theorem dX7_ack_62 : decode cX7_ack 62 = .ok (.iload_n 1, 1) := by decide +kernel
theorem dX7_ack_63 : decode cX7_ack 63 = .ok (.iconst 4, 1) := by decide +kernel
theorem dX7_ack_64 : decode cX7_ack 64 = .ok (.imul, 1) := by decide +kernel
theorem dX7_ack_65 : decode cX7_ack 65 = .ok (.iload_n 2, 1) := by decide +kernel
theorem dX7_ack_66 : decode cX7_ack 66 = .ok (.iadd, 1) := by decide +kernel
theorem dX7_ack_67 : decode cX7_ack 67 = .ok (.iaload, 1) := by decide +kernel
theorem dX7_ack_68 : decode cX7_ack 68 = .ok (.ireturn, 1) := by decide +kernel
theorem dX7_nackNow_0 : decode cX7_nackNow 0 = .ok (.iload_n 1, 1) := by decide +kernel
theorem dX7_nackNow_1 : decode cX7_nackNow 1 = .ok (.bipush 80, 2) := by decide +kernel
theorem dX7_nackNow_3 : decode cX7_nackNow 3 = .ok (.imul, 1) := by decide +kernel
theorem dX7_nackNow_4 : decode cX7_nackNow 4 = .ok (.iload_n 2, 1) := by decide +kernel
theorem dX7_nackNow_5 : decode cX7_nackNow 5 = .ok (.iadd, 1) := by decide +kernel
theorem dX7_nackNow_6 : decode cX7_nackNow 6 = .ok (.istore_n 3, 1) := by decide +kernel
theorem dX7_nackNow_7 : decode cX7_nackNow 7 = .ok (.aload_n 0, 1) := by decide +kernel
theorem dX7_nackNow_8 : decode cX7_nackNow 8 = .ok (.iconst 2, 1) := by decide +kernel
theorem dX7_nackNow_9 : decode cX7_nackNow 9 = .ok (.iload_n 1, 1) := by decide +kernel
theorem dX7_nackNow_10 : decode cX7_nackNow 10 = .ok (.iload_n 2, 1) := by decide +kernel
theorem dX7_nackNow_11 : decode cX7_nackNow 11 = .ok (.invokevirtual 213, 3) := by decide +kernel
theorem dX7_nackNow_14 : decode cX7_nackNow 14 = .ok (.aload_n 0, 1) := by decide +kernel
theorem dX7_nackNow_15 : decode cX7_nackNow 15 = .ok (.getfield 84, 3) := by decide +kernel
theorem dX7_nackNow_18 : decode cX7_nackNow 18 = .ok (.iload_n 3, 1) := by decide +kernel
theorem dX7_nackNow_19 : decode cX7_nackNow 19 = .ok (.iaload, 1) := by decide +kernel
theorem dX7_nackNow_20 : decode cX7_nackNow 20 = .ok (.iconst 3, 1) := by decide +kernel
theorem dX7_nackNow_21 : decode cX7_nackNow 21 = .ok (.if_icmp .ne 19, 3) := by decide +kernel
theorem dX7_nackNow_24 : decode cX7_nackNow 24 = .ok (.aload_n 0, 1) := by decide +kernel
theorem dX7_nackNow_25 : decode cX7_nackNow 25 = .ok (.getfield 81, 3) := by decide +kernel
theorem dX7_nackNow_28 : decode cX7_nackNow 28 = .ok (.iload_n 3, 1) := by decide +kernel
theorem dX7_nackNow_29 : decode cX7_nackNow 29 = .ok (.iconst 4, 1) := by decide +kernel
theorem dX7_nackNow_30 : decode cX7_nackNow 30 = .ok (.iastore, 1) := by decide +kernel
theorem dX7_nackNow_31 : decode cX7_nackNow 31 = .ok (.aload_n 0, 1) := by decide +kernel
theorem dX7_nackNow_32 : decode cX7_nackNow 32 = .ok (.iconst 3, 1) := by decide +kernel
theorem dX7_nackNow_33 : decode cX7_nackNow 33 = .ok (.iload_n 1, 1) := by decide +kernel
theorem dX7_nackNow_34 : decode cX7_nackNow 34 = .ok (.iload_n 2, 1) := by decide +kernel
theorem dX7_nackNow_35 : decode cX7_nackNow 35 = .ok (.invokevirtual 213, 3) := by decide +kernel
theorem dX7_nackNow_38 : decode cX7_nackNow 38 = .ok (.iconst (-1), 1) := by decide +kernel
theorem dX7_nackNow_39 : decode cX7_nackNow 39 = .ok (.ireturn, 1) := by decide +kernel
theorem dX7_nackNow_40 : decode cX7_nackNow 40 = .ok (.aload_n 0, 1) := by decide +kernel
theorem dX7_nackNow_41 : decode cX7_nackNow 41 = .ok (.getfield 81, 3) := by decide +kernel
theorem dX7_nackNow_44 : decode cX7_nackNow 44 = .ok (.iload_n 3, 1) := by decide +kernel
theorem dX7_nackNow_45 : decode cX7_nackNow 45 = .ok (.iconst 2, 1) := by decide +kernel
theorem dX7_nackNow_46 : decode cX7_nackNow 46 = .ok (.iastore, 1) := by decide +kernel
theorem dX7_nackNow_47 : decode cX7_nackNow 47 = .ok (.aload_n 0, 1) := by decide +kernel
theorem dX7_nackNow_48 : decode cX7_nackNow 48 = .ok (.getfield 87, 3) := by decide +kernel
theorem dX7_nackNow_51 : decode cX7_nackNow 51 = .ok (.iload_n 3, 1) := by decide +kernel
theorem dX7_nackNow_52 : decode cX7_nackNow 52 = .ok (.aload_n 0, 1) := by decide +kernel
theorem dX7_nackNow_53 : decode cX7_nackNow 53 = .ok (.getfield 143, 3) := by decide +kernel
theorem dX7_nackNow_56 : decode cX7_nackNow 56 = .ok (.aload_n 0, 1) := by decide +kernel
theorem dX7_nackNow_57 : decode cX7_nackNow 57 = .ok (.getfield 7, 3) := by decide +kernel
theorem dX7_nackNow_60 : decode cX7_nackNow 60 = .ok (.iconst 1, 1) := by decide +kernel
theorem dX7_nackNow_61 : decode cX7_nackNow 61 = .ok (.aload_n 0, 1) := by decide +kernel
theorem dX7_nackNow_62 : decode cX7_nackNow 62 = .ok (.getfield 84, 3) := by decide +kernel
theorem dX7_nackNow_65 : decode cX7_nackNow 65 = .ok (.iload_n 3, 1) := by decide +kernel
theorem dX7_nackNow_66 : decode cX7_nackNow 66 = .ok (.iaload, 1) := by decide +kernel
theorem dX7_nackNow_67 : decode cX7_nackNow 67 = .ok (.iconst 1, 1) := by decide +kernel
theorem dX7_nackNow_68 : decode cX7_nackNow 68 = .ok (.isub, 1) := by decide +kernel
theorem dX7_nackNow_69 : decode cX7_nackNow 69 = .ok (.ishl, 1) := by decide +kernel
theorem dX7_nackNow_70 : decode cX7_nackNow 70 = .ok (.imul, 1) := by decide +kernel
theorem dX7_nackNow_71 : decode cX7_nackNow 71 = .ok (.iadd, 1) := by decide +kernel
theorem dX7_nackNow_72 : decode cX7_nackNow 72 = .ok (.iastore, 1) := by decide +kernel
theorem dX7_nackNow_73 : decode cX7_nackNow 73 = .ok (.aload_n 0, 1) := by decide +kernel
theorem dX7_nackNow_74 : decode cX7_nackNow 74 = .ok (.getfield 87, 3) := by decide +kernel
theorem dX7_nackNow_77 : decode cX7_nackNow 77 = .ok (.iload_n 3, 1) := by decide +kernel
theorem dX7_nackNow_78 : decode cX7_nackNow 78 = .ok (.iaload, 1) := by decide +kernel
theorem dX7_nackNow_79 : decode cX7_nackNow 79 = .ok (.ireturn, 1) := by decide +kernel
theorem dX7_nack_0 : decode cX7_nack 0 = .ok (.aload_n 0, 1) := by decide +kernel
theorem dX7_nack_1 : decode cX7_nack 1 = .ok (.aload_n 0, 1) := by decide +kernel
theorem dX7_nack_2 : decode cX7_nack 2 = .ok (.iload_n 1, 1) := by decide +kernel
theorem dX7_nack_3 : decode cX7_nack 3 = .ok (.iload_n 2, 1) := by decide +kernel
theorem dX7_nack_4 : decode cX7_nack 4 = .ok (.iload_n 3, 1) := by decide +kernel
theorem dX7_nack_5 : decode cX7_nack 5 = .ok (.invokevirtual 223, 3) := by decide +kernel
theorem dX7_nack_8 : decode cX7_nack 8 = .ok (.putfield 93, 3) := by decide +kernel
theorem dX7_nack_11 : decode cX7_nack 11 = .ok (.aload_n 0, 1) := by decide +kernel
theorem dX7_nack_12 : decode cX7_nack 12 = .ok (.getfield 93, 3) := by decide +kernel
theorem dX7_nack_15 : decode cX7_nack 15 = .ok (.ifCond .eq 5, 3) := by decide +kernel
theorem dX7_nack_18 : decode cX7_nack 18 = .ok (.iconst 0, 1) := by decide +kernel
theorem dX7_nack_19 : decode cX7_nack 19 = .ok (.ireturn, 1) := by decide +kernel
theorem dX7_nack_20 : decode cX7_nack 20 = .ok (.aload_n 0, 1) := by decide +kernel
theorem dX7_nack_21 : decode cX7_nack 21 = .ok (.iload_n 1, 1) := by decide +kernel
theorem dX7_nack_22 : decode cX7_nack 22 = .ok (.aload_n 0, 1) := by decide +kernel
theorem dX7_nack_23 : decode cX7_nack 23 = .ok (.aload_n 0, 1) := by decide +kernel
theorem dX7_nack_24 : decode cX7_nack 24 = .ok (.iload_n 1, 1) := by decide +kernel
theorem dX7_nack_25 : decode cX7_nack 25 = .ok (.iload_n 2, 1) := by decide +kernel
theorem dX7_nack_26 : decode cX7_nack 26 = .ok (.invokevirtual 201, 3) := by decide +kernel
theorem dX7_nack_29 : decode cX7_nack 29 = .ok (.iload_n 3, 1) := by decide +kernel
theorem dX7_nack_30 : decode cX7_nack 30 = .ok (.invokevirtual 113, 3) := by decide +kernel
theorem dX7_nack_33 : decode cX7_nack 33 = .ok (.invokevirtual 169, 3) := by decide +kernel
theorem dX7_nack_36 : decode cX7_nack 36 = .ok (.istore 4, 2) := by decide +kernel
theorem dX7_nack_38 : decode cX7_nack 38 = .ok (.aload_n 0, 1) := by decide +kernel
theorem dX7_nack_39 : decode cX7_nack 39 = .ok (.invokevirtual 146, 3) := by decide +kernel
theorem dX7_nack_42 : decode cX7_nack 42 = .ok (.iload 4, 2) := by decide +kernel
theorem dX7_nack_44 : decode cX7_nack 44 = .ok (.ireturn, 1) := by decide +kernel
theorem dX7_seek_0 : decode cX7_seek 0 = .ok (.aload_n 0, 1) := by decide +kernel
theorem dX7_seek_1 : decode cX7_seek 1 = .ok (.iconst 0, 1) := by decide +kernel
theorem dX7_seek_2 : decode cX7_seek 2 = .ok (.putfield 93, 3) := by decide +kernel
theorem dX7_seek_5 : decode cX7_seek 5 = .ok (.aload_n 0, 1) := by decide +kernel
theorem dX7_seek_6 : decode cX7_seek 6 = .ok (.iload_n 1, 1) := by decide +kernel
theorem dX7_seek_7 : decode cX7_seek 7 = .ok (.iload_n 2, 1) := by decide +kernel
theorem dX7_seek_8 : decode cX7_seek 8 = .ok (.invokevirtual 220, 3) := by decide +kernel
theorem dX7_seek_11 : decode cX7_seek 11 = .ok (.ifCond .ne 9, 3) := by decide +kernel
theorem dX7_seek_14 : decode cX7_seek 14 = .ok (.aload_n 0, 1) := by decide +kernel
theorem dX7_seek_15 : decode cX7_seek 15 = .ok (.iconst 1, 1) := by decide +kernel
theorem dX7_seek_16 : decode cX7_seek 16 = .ok (.invokevirtual 134, 3) := by decide +kernel
theorem dX7_seek_19 : decode cX7_seek 19 = .ok (.ireturn, 1) := by decide +kernel
theorem dX7_seek_20 : decode cX7_seek 20 = .ok (.aload_n 0, 1) := by decide +kernel
theorem dX7_seek_21 : decode cX7_seek 21 = .ok (.iload_n 1, 1) := by decide +kernel
theorem dX7_seek_22 : decode cX7_seek 22 = .ok (.iload_n 2, 1) := by decide +kernel
theorem dX7_seek_23 : decode cX7_seek 23 = .ok (.invokevirtual 201, 3) := by decide +kernel
theorem dX7_seek_26 : decode cX7_seek 26 = .ok (.istore 4, 2) := by decide +kernel
theorem dX7_seek_28 : decode cX7_seek 28 = .ok (.iload_n 3, 1) := by decide +kernel
theorem dX7_seek_29 : decode cX7_seek 29 = .ok (.aload_n 0, 1) := by decide +kernel
theorem dX7_seek_30 : decode cX7_seek 30 = .ok (.getfield 23, 3) := by decide +kernel
theorem dX7_seek_33 : decode cX7_seek 33 = .ok (.iload 4, 2) := by decide +kernel
theorem dX7_seek_35 : decode cX7_seek 35 = .ok (.iaload, 1) := by decide +kernel
theorem dX7_seek_36 : decode cX7_seek 36 = .ok (.aload_n 0, 1) := by decide +kernel
theorem dX7_seek_37 : decode cX7_seek 37 = .ok (.getfield 26, 3) := by decide +kernel
theorem dX7_seek_40 : decode cX7_seek 40 = .ok (.iload 4, 2) := by decide +kernel
theorem dX7_seek_42 : decode cX7_seek 42 = .ok (.iaload, 1) := by decide +kernel
theorem dX7_seek_43 : decode cX7_seek 43 = .ok (.invokestatic 99, 3) := by decide +kernel
theorem dX7_seek_46 : decode cX7_seek 46 = .ok (.ifCond .ne 9, 3) := by decide +kernel
theorem dX7_seek_49 : decode cX7_seek 49 = .ok (.aload_n 0, 1) := by decide +kernel
theorem dX7_seek_50 : decode cX7_seek 50 = .ok (.iconst 2, 1) := by decide +kernel
theorem dX7_seek_51 : decode cX7_seek 51 = .ok (.invokevirtual 134, 3) := by decide +kernel
theorem dX7_seek_54 : decode cX7_seek 54 = .ok (.ireturn, 1) := by decide +kernel
theorem dX7_seek_55 : decode cX7_seek 55 = .ok (.iload_n 1, 1) := by decide +kernel
theorem dX7_seek_56 : decode cX7_seek 56 = .ok (.iconst 4, 1) := by decide +kernel
theorem dX7_seek_57 : decode cX7_seek 57 = .ok (.imul, 1) := by decide +kernel
theorem dX7_seek_58 : decode cX7_seek 58 = .ok (.iload_n 2, 1) := by decide +kernel
theorem dX7_seek_59 : decode cX7_seek 59 = .ok (.iadd, 1) := by decide +kernel
theorem dX7_seek_60 : decode cX7_seek 60 = .ok (.istore 5, 2) := by decide +kernel
theorem dX7_seek_62 : decode cX7_seek 62 = .ok (.aload_n 0, 1) := by decide +kernel
theorem dX7_seek_63 : decode cX7_seek 63 = .ok (.getfield 69, 3) := by decide +kernel
theorem dX7_seek_66 : decode cX7_seek 66 = .ok (.iload 5, 2) := by decide +kernel
theorem dX7_seek_68 : decode cX7_seek 68 = .ok (.iaload, 1) := by decide +kernel
theorem dX7_seek_69 : decode cX7_seek 69 = .ok (.istore 6, 2) := by decide +kernel
theorem dX7_seek_71 : decode cX7_seek 71 = .ok (.iconst 0, 1) := by decide +kernel
theorem dX7_seek_72 : decode cX7_seek 72 = .ok (.istore 7, 2) := by decide +kernel
theorem dX7_seek_74 : decode cX7_seek 74 = .ok (.iload 7, 2) := by decide +kernel
theorem dX7_seek_76 : decode cX7_seek 76 = .ok (.aload_n 0, 1) := by decide +kernel
theorem dX7_seek_77 : decode cX7_seek 77 = .ok (.getfield 26, 3) := by decide +kernel
theorem dX7_seek_80 : decode cX7_seek 80 = .ok (.iload 4, 2) := by decide +kernel
theorem dX7_seek_82 : decode cX7_seek 82 = .ok (.iaload, 1) := by decide +kernel
theorem dX7_seek_83 : decode cX7_seek 83 = .ok (.if_icmp .ge 60, 3) := by decide +kernel
theorem dX7_seek_86 : decode cX7_seek 86 = .ok (.aload_n 0, 1) := by decide +kernel
theorem dX7_seek_87 : decode cX7_seek 87 = .ok (.getfield 81, 3) := by decide +kernel
theorem dX7_seek_90 : decode cX7_seek 90 = .ok (.iload_n 1, 1) := by decide +kernel
theorem dX7_seek_91 : decode cX7_seek 91 = .ok (.bipush 80, 2) := by decide +kernel
theorem dX7_seek_93 : decode cX7_seek 93 = .ok (.imul, 1) := by decide +kernel
theorem dX7_seek_94 : decode cX7_seek 94 = .ok (.aload_n 0, 1) := by decide +kernel
theorem dX7_seek_95 : decode cX7_seek 95 = .ok (.iload 4, 2) := by decide +kernel
theorem dX7_seek_97 : decode cX7_seek 97 = .ok (.iload 7, 2) := by decide +kernel
theorem dX7_seek_99 : decode cX7_seek 99 = .ok (.invokevirtual 113, 3) := by decide +kernel
theorem dX7_seek_102 : decode cX7_seek 102 = .ok (.iadd, 1) := by decide +kernel
theorem dX7_seek_103 : decode cX7_seek 103 = .ok (.iaload, 1) := by decide +kernel
theorem dX7_seek_104 : decode cX7_seek 104 = .ok (.istore 8, 2) := by decide +kernel
theorem dX7_seek_106 : decode cX7_seek 106 = .ok (.iload 7, 2) := by decide +kernel
theorem dX7_seek_108 : decode cX7_seek 108 = .ok (.iload_n 3, 1) := by decide +kernel
theorem dX7_seek_109 : decode cX7_seek 109 = .ok (.if_icmp .ge 15, 3) := by decide +kernel
theorem dX7_seek_112 : decode cX7_seek 112 = .ok (.iload 8, 2) := by decide +kernel
theorem dX7_seek_114 : decode cX7_seek 114 = .ok (.iconst 1, 1) := by decide +kernel
theorem dX7_seek_115 : decode cX7_seek 115 = .ok (.if_icmp .eq 9, 3) := by decide +kernel
theorem dX7_seek_118 : decode cX7_seek 118 = .ok (.iload 8, 2) := by decide +kernel
theorem dX7_seek_120 : decode cX7_seek 120 = .ok (.iconst 2, 1) := by decide +kernel
theorem dX7_seek_121 : decode cX7_seek 121 = .ok (.if_icmp .ne 16, 3) := by decide +kernel
theorem dX7_seek_124 : decode cX7_seek 124 = .ok (.aload_n 0, 1) := by decide +kernel
theorem dX7_seek_125 : decode cX7_seek 125 = .ok (.iload_n 1, 1) := by decide +kernel
theorem dX7_seek_126 : decode cX7_seek 126 = .ok (.aload_n 0, 1) := by decide +kernel
theorem dX7_seek_127 : decode cX7_seek 127 = .ok (.iload 4, 2) := by decide +kernel
theorem dX7_seek_129 : decode cX7_seek 129 = .ok (.iload 7, 2) := by decide +kernel
theorem dX7_seek_131 : decode cX7_seek 131 = .ok (.invokevirtual 113, 3) := by decide +kernel
theorem dX7_seek_134 : decode cX7_seek 134 = .ok (.invokevirtual 130, 3) := by decide +kernel
theorem dX7_seek_137 : decode cX7_seek 137 = .ok (.iinc 7 1, 3) := by decide +kernel
theorem dX7_seek_140 : decode cX7_seek 140 = .ok (.goto (-66), 3) := by decide +kernel
theorem dX7_seek_143 : decode cX7_seek 143 = .ok (.aload_n 0, 1) := by decide +kernel
theorem dX7_seek_144 : decode cX7_seek 144 = .ok (.getfield 69, 3) := by decide +kernel
theorem dX7_seek_147 : decode cX7_seek 147 = .ok (.iload 5, 2) := by decide +kernel
theorem dX7_seek_149 : decode cX7_seek 149 = .ok (.iload_n 3, 1) := by decide +kernel
theorem dX7_seek_150 : decode cX7_seek 150 = .ok (.iastore, 1) := by decide +kernel
theorem dX7_seek_151 : decode cX7_seek 151 = .ok (.aload_n 0, 1) := by decide +kernel
theorem dX7_seek_152 : decode cX7_seek 152 = .ok (.getfield 72, 3) := by decide +kernel
theorem dX7_seek_155 : decode cX7_seek 155 = .ok (.iload 5, 2) := by decide +kernel
theorem dX7_seek_157 : decode cX7_seek 157 = .ok (.iload_n 3, 1) := by decide +kernel
theorem dX7_seek_158 : decode cX7_seek 158 = .ok (.iastore, 1) := by decide +kernel
theorem dX7_seek_159 : decode cX7_seek 159 = .ok (.aload_n 0, 1) := by decide +kernel
theorem dX7_seek_160 : decode cX7_seek 160 = .ok (.invokevirtual 146, 3) := by decide +kernel
theorem dX7_seek_163 : decode cX7_seek 163 = .ok (.iload 6, 2) := by decide +kernel
theorem dX7_seek_165 : decode cX7_seek 165 = .ok (.ireturn, 1) := by decide +kernel
theorem dX7_groups_0 : decode cX7_groups 0 = .ok (.aload_n 0, 1) := by decide +kernel
theorem dX7_groups_1 : decode cX7_groups 1 = .ok (.aload_n 0, 1) := by decide +kernel
theorem dX7_groups_2 : decode cX7_groups 2 = .ok (.getfield 107, 3) := by decide +kernel
theorem dX7_groups_5 : decode cX7_groups 5 = .ok (.invokevirtual 175, 3) := by decide +kernel
theorem dX7_groups_8 : decode cX7_groups 8 = .ok (.ireturn, 1) := by decide +kernel
theorem dX7_ofShare_0 : decode cX7_ofShare 0 = .ok (.aload_n 0, 1) := by decide +kernel
theorem dX7_ofShare_1 : decode cX7_ofShare 1 = .ok (.iconst 0, 1) := by decide +kernel
theorem dX7_ofShare_2 : decode cX7_ofShare 2 = .ok (.putfield 93, 3) := by decide +kernel
theorem dX7_ofShare_5 : decode cX7_ofShare 5 = .ok (.aload_n 0, 1) := by decide +kernel
theorem dX7_ofShare_6 : decode cX7_ofShare 6 = .ok (.iload_n 1, 1) := by decide +kernel
theorem dX7_ofShare_7 : decode cX7_ofShare 7 = .ok (.iload_n 2, 1) := by decide +kernel
theorem dX7_ofShare_8 : decode cX7_ofShare 8 = .ok (.invokevirtual 220, 3) := by decide +kernel
theorem dX7_ofShare_11 : decode cX7_ofShare 11 = .ok (.ifCond .eq 13, 3) := by decide +kernel
theorem dX7_ofShare_14 : decode cX7_ofShare 14 = .ok (.aload_n 3, 1) := by decide +kernel
theorem dX7_ofShare_15 : decode cX7_ofShare 15 = .ok (.iload_n 1, 1) := by decide +kernel
theorem dX7_ofShare_16 : decode cX7_ofShare 16 = .ok (.iconst 4, 1) := by decide +kernel
theorem dX7_ofShare_17 : decode cX7_ofShare 17 = .ok (.imul, 1) := by decide +kernel
theorem dX7_ofShare_18 : decode cX7_ofShare 18 = .ok (.iload_n 2, 1) := by decide +kernel
theorem dX7_ofShare_19 : decode cX7_ofShare 19 = .ok (.iadd, 1) := by decide +kernel
theorem dX7_ofShare_20 : decode cX7_ofShare 20 = .ok (.iaload, 1) := by decide +kernel
theorem dX7_ofShare_21 : decode cX7_ofShare 21 = .ok (.goto 8, 3) := by decide +kernel
theorem dX7_ofShare_24 : decode cX7_ofShare 24 = .ok (.aload_n 0, 1) := by decide +kernel
theorem dX7_ofShare_25 : decode cX7_ofShare 25 = .ok (.iconst 1, 1) := by decide +kernel
theorem dX7_ofShare_26 : decode cX7_ofShare 26 = .ok (.invokevirtual 134, 3) := by decide +kernel
theorem dX7_ofShare_29 : decode cX7_ofShare 29 = .ok (.ireturn, 1) := by decide +kernel
theorem dX7_reader_0 : decode cX7_reader 0 = .ok (.aload_n 0, 1) := by decide +kernel
theorem dX7_reader_1 : decode cX7_reader 1 = .ok (.iload_n 1, 1) := by decide +kernel
theorem dX7_reader_2 : decode cX7_reader 2 = .ok (.iload_n 2, 1) := by decide +kernel
theorem dX7_reader_3 : decode cX7_reader 3 = .ok (.aload_n 0, 1) := by decide +kernel
theorem dX7_reader_4 : decode cX7_reader 4 = .ok (.getfield 75, 3) := by decide +kernel
theorem dX7_reader_7 : decode cX7_reader 7 = .ok (.invokevirtual 227, 3) := by decide +kernel
theorem dX7_reader_10 : decode cX7_reader 10 = .ok (.ireturn, 1) := by decide +kernel
theorem dX7_mark_0 : decode cX7_mark 0 = .ok (.aload_n 0, 1) := by decide +kernel
theorem dX7_mark_1 : decode cX7_mark 1 = .ok (.iload_n 1, 1) := by decide +kernel
theorem dX7_mark_2 : decode cX7_mark 2 = .ok (.iload_n 2, 1) := by decide +kernel
theorem dX7_mark_3 : decode cX7_mark 3 = .ok (.aload_n 0, 1) := by decide +kernel
theorem dX7_mark_4 : decode cX7_mark 4 = .ok (.getfield 69, 3) := by decide +kernel
theorem dX7_mark_7 : decode cX7_mark 7 = .ok (.invokevirtual 227, 3) := by decide +kernel
theorem dX7_mark_10 : decode cX7_mark 10 = .ok (.ireturn, 1) := by decide +kernel
theorem dX7_cursor_0 : decode cX7_cursor 0 = .ok (.aload_n 0, 1) := by decide +kernel
theorem dX7_cursor_1 : decode cX7_cursor 1 = .ok (.iload_n 1, 1) := by decide +kernel
theorem dX7_cursor_2 : decode cX7_cursor 2 = .ok (.iload_n 2, 1) := by decide +kernel
theorem dX7_cursor_3 : decode cX7_cursor 3 = .ok (.aload_n 0, 1) := by decide +kernel
theorem dX7_cursor_4 : decode cX7_cursor 4 = .ok (.getfield 72, 3) := by decide +kernel
theorem dX7_cursor_7 : decode cX7_cursor 7 = .ok (.invokevirtual 227, 3) := by decide +kernel
theorem dX7_cursor_10 : decode cX7_cursor 10 = .ok (.ireturn, 1) := by decide +kernel
theorem dX7_ofGiven_0 : decode cX7_ofGiven 0 = .ok (.aload_n 0, 1) := by decide +kernel
theorem dX7_ofGiven_1 : decode cX7_ofGiven 1 = .ok (.iconst 0, 1) := by decide +kernel
theorem dX7_ofGiven_2 : decode cX7_ofGiven 2 = .ok (.putfield 93, 3) := by decide +kernel
theorem dX7_ofGiven_5 : decode cX7_ofGiven 5 = .ok (.aload_n 0, 1) := by decide +kernel
theorem dX7_ofGiven_6 : decode cX7_ofGiven 6 = .ok (.iload_n 1, 1) := by decide +kernel
theorem dX7_ofGiven_7 : decode cX7_ofGiven 7 = .ok (.iload_n 2, 1) := by decide +kernel
theorem dX7_ofGiven_8 : decode cX7_ofGiven 8 = .ok (.invokevirtual 220, 3) := by decide +kernel
theorem dX7_ofGiven_11 : decode cX7_ofGiven 11 = .ok (.ifCond .eq 24, 3) := by decide +kernel
theorem dX7_ofGiven_14 : decode cX7_ofGiven 14 = .ok (.iload_n 3, 1) := by decide +kernel
theorem dX7_ofGiven_15 : decode cX7_ofGiven 15 = .ok (.iconst 0, 1) := by decide +kernel
theorem dX7_ofGiven_16 : decode cX7_ofGiven 16 = .ok (.aload_n 0, 1) := by decide +kernel
theorem dX7_ofGiven_17 : decode cX7_ofGiven 17 = .ok (.getfield 26, 3) := by decide +kernel
theorem dX7_ofGiven_20 : decode cX7_ofGiven 20 = .ok (.aload_n 0, 1) := by decide +kernel
theorem dX7_ofGiven_21 : decode cX7_ofGiven 21 = .ok (.iload_n 1, 1) := by decide +kernel
theorem dX7_ofGiven_22 : decode cX7_ofGiven 22 = .ok (.iload_n 2, 1) := by decide +kernel
theorem dX7_ofGiven_23 : decode cX7_ofGiven 23 = .ok (.invokevirtual 201, 3) := by decide +kernel
theorem dX7_ofGiven_26 : decode cX7_ofGiven 26 = .ok (.iaload, 1) := by decide +kernel
theorem dX7_ofGiven_27 : decode cX7_ofGiven 27 = .ok (.iconst 1, 1) := by decide +kernel
theorem dX7_ofGiven_28 : decode cX7_ofGiven 28 = .ok (.isub, 1) := by decide +kernel
theorem dX7_ofGiven_29 : decode cX7_ofGiven 29 = .ok (.invokestatic 99, 3) := by decide +kernel
theorem dX7_ofGiven_32 : decode cX7_ofGiven 32 = .ok (.ifCond .ne 9, 3) := by decide +kernel
theorem dX7_ofGiven_35 : decode cX7_ofGiven 35 = .ok (.aload_n 0, 1) := by decide +kernel
theorem dX7_ofGiven_36 : decode cX7_ofGiven 36 = .ok (.iconst 1, 1) := by decide +kernel
theorem dX7_ofGiven_37 : decode cX7_ofGiven 37 = .ok (.invokevirtual 134, 3) := by decide +kernel
theorem dX7_ofGiven_40 : decode cX7_ofGiven 40 = .ok (.ireturn, 1) := by decide +kernel
theorem dX7_ofGiven_41 : decode cX7_ofGiven 41 = .ok (.aload 4, 2) := by decide +kernel
theorem dX7_ofGiven_43 : decode cX7_ofGiven 43 = .ok (.iload_n 1, 1) := by decide +kernel
theorem dX7_ofGiven_44 : decode cX7_ofGiven 44 = .ok (.bipush 80, 2) := by decide +kernel
theorem dX7_ofGiven_46 : decode cX7_ofGiven 46 = .ok (.imul, 1) := by decide +kernel
theorem dX7_ofGiven_47 : decode cX7_ofGiven 47 = .ok (.aload_n 0, 1) := by decide +kernel
theorem dX7_ofGiven_48 : decode cX7_ofGiven 48 = .ok (.aload_n 0, 1) := by decide +kernel
theorem dX7_ofGiven_49 : decode cX7_ofGiven 49 = .ok (.iload_n 1, 1) := by decide +kernel
theorem dX7_ofGiven_50 : decode cX7_ofGiven 50 = .ok (.iload_n 2, 1) := by decide +kernel
theorem dX7_ofGiven_51 : decode cX7_ofGiven 51 = .ok (.invokevirtual 201, 3) := by decide +kernel
theorem dX7_ofGiven_54 : decode cX7_ofGiven 54 = .ok (.iload_n 3, 1) := by decide +kernel
theorem dX7_ofGiven_55 : decode cX7_ofGiven 55 = .ok (.invokevirtual 113, 3) := by decide +kernel
theorem dX7_ofGiven_58 : decode cX7_ofGiven 58 = .ok (.iadd, 1) := by decide +kernel
theorem dX7_ofGiven_59 : decode cX7_ofGiven 59 = .ok (.iaload, 1) := by decide +kernel
theorem dX7_ofGiven_60 : decode cX7_ofGiven 60 = .ok (.ireturn, 1) := by decide +kernel
theorem dX7_state_0 : decode cX7_state 0 = .ok (.aload_n 0, 1) := by decide +kernel
theorem dX7_state_1 : decode cX7_state 1 = .ok (.iload_n 1, 1) := by decide +kernel
theorem dX7_state_2 : decode cX7_state 2 = .ok (.iload_n 2, 1) := by decide +kernel
theorem dX7_state_3 : decode cX7_state 3 = .ok (.iload_n 3, 1) := by decide +kernel
theorem dX7_state_4 : decode cX7_state 4 = .ok (.aload_n 0, 1) := by decide +kernel
theorem dX7_state_5 : decode cX7_state 5 = .ok (.getfield 81, 3) := by decide +kernel
theorem dX7_state_8 : decode cX7_state 8 = .ok (.invokevirtual 230, 3) := by decide +kernel
theorem dX7_state_11 : decode cX7_state 11 = .ok (.ireturn, 1) := by decide +kernel
theorem dX7_tries_0 : decode cX7_tries 0 = .ok (.aload_n 0, 1) := by decide +kernel
theorem dX7_tries_1 : decode cX7_tries 1 = .ok (.iload_n 1, 1) := by decide +kernel
theorem dX7_tries_2 : decode cX7_tries 2 = .ok (.iload_n 2, 1) := by decide +kernel
theorem dX7_tries_3 : decode cX7_tries 3 = .ok (.iload_n 3, 1) := by decide +kernel
theorem dX7_tries_4 : decode cX7_tries 4 = .ok (.aload_n 0, 1) := by decide +kernel
theorem dX7_tries_5 : decode cX7_tries 5 = .ok (.getfield 84, 3) := by decide +kernel
theorem dX7_tries_8 : decode cX7_tries 8 = .ok (.invokevirtual 230, 3) := by decide +kernel
theorem dX7_tries_11 : decode cX7_tries 11 = .ok (.ireturn, 1) := by decide +kernel
theorem dX7_lagNow_0 : decode cX7_lagNow 0 = .ok (.aload_n 0, 1) := by decide +kernel
theorem dX7_lagNow_1 : decode cX7_lagNow 1 = .ok (.iload_n 1, 1) := by decide +kernel
theorem dX7_lagNow_2 : decode cX7_lagNow 2 = .ok (.iload_n 2, 1) := by decide +kernel
theorem dX7_lagNow_3 : decode cX7_lagNow 3 = .ok (.invokevirtual 201, 3) := by decide +kernel
theorem dX7_lagNow_6 : decode cX7_lagNow 6 = .ok (.istore_n 3, 1) := by decide +kernel
theorem dX7_lagNow_7 : decode cX7_lagNow 7 = .ok (.iconst 0, 1) := by decide +kernel
theorem dX7_lagNow_8 : decode cX7_lagNow 8 = .ok (.istore 4, 2) := by decide +kernel
theorem dX7_lagNow_10 : decode cX7_lagNow 10 = .ok (.aload_n 0, 1) := by decide +kernel
theorem dX7_lagNow_11 : decode cX7_lagNow 11 = .ok (.iload_n 3, 1) := by decide +kernel
theorem dX7_lagNow_12 : decode cX7_lagNow 12 = .ok (.invokevirtual 158, 3) := by decide +kernel
theorem dX7_lagNow_15 : decode cX7_lagNow 15 = .ok (.istore 5, 2) := by decide +kernel
theorem dX7_lagNow_17 : decode cX7_lagNow 17 = .ok (.aload_n 0, 1) := by decide +kernel
theorem dX7_lagNow_18 : decode cX7_lagNow 18 = .ok (.getfield 69, 3) := by decide +kernel
theorem dX7_lagNow_21 : decode cX7_lagNow 21 = .ok (.iload_n 1, 1) := by decide +kernel
theorem dX7_lagNow_22 : decode cX7_lagNow 22 = .ok (.iconst 4, 1) := by decide +kernel
theorem dX7_lagNow_23 : decode cX7_lagNow 23 = .ok (.imul, 1) := by decide +kernel
theorem dX7_lagNow_24 : decode cX7_lagNow 24 = .ok (.iload_n 2, 1) := by decide +kernel
theorem dX7_lagNow_25 : decode cX7_lagNow 25 = .ok (.iadd, 1) := by decide +kernel
theorem dX7_lagNow_26 : decode cX7_lagNow 26 = .ok (.iaload, 1) := by decide +kernel
theorem dX7_lagNow_27 : decode cX7_lagNow 27 = .ok (.istore 6, 2) := by decide +kernel
theorem dX7_lagNow_29 : decode cX7_lagNow 29 = .ok (.iload 6, 2) := by decide +kernel
theorem dX7_lagNow_31 : decode cX7_lagNow 31 = .ok (.iload 5, 2) := by decide +kernel
theorem dX7_lagNow_33 : decode cX7_lagNow 33 = .ok (.if_icmp .ge 73, 3) := by decide +kernel
theorem dX7_lagNow_36 : decode cX7_lagNow 36 = .ok (.aload_n 0, 1) := by decide +kernel
theorem dX7_lagNow_37 : decode cX7_lagNow 37 = .ok (.iload_n 3, 1) := by decide +kernel
theorem dX7_lagNow_38 : decode cX7_lagNow 38 = .ok (.iload 6, 2) := by decide +kernel
theorem dX7_lagNow_40 : decode cX7_lagNow 40 = .ok (.invokevirtual 113, 3) := by decide +kernel
theorem dX7_lagNow_43 : decode cX7_lagNow 43 = .ok (.istore 7, 2) := by decide +kernel
theorem dX7_lagNow_45 : decode cX7_lagNow 45 = .ok (.aload_n 0, 1) := by decide +kernel
theorem dX7_lagNow_46 : decode cX7_lagNow 46 = .ok (.getfield 81, 3) := by decide +kernel
theorem dX7_lagNow_49 : decode cX7_lagNow 49 = .ok (.iload_n 1, 1) := by decide +kernel
theorem dX7_lagNow_50 : decode cX7_lagNow 50 = .ok (.bipush 80, 2) := by decide +kernel
theorem dX7_lagNow_52 : decode cX7_lagNow 52 = .ok (.imul, 1) := by decide +kernel
theorem dX7_lagNow_53 : decode cX7_lagNow 53 = .ok (.iload 7, 2) := by decide +kernel
theorem dX7_lagNow_55 : decode cX7_lagNow 55 = .ok (.iadd, 1) := by decide +kernel
theorem dX7_lagNow_56 : decode cX7_lagNow 56 = .ok (.iaload, 1) := by decide +kernel
theorem dX7_lagNow_57 : decode cX7_lagNow 57 = .ok (.istore 8, 2) := by decide +kernel
theorem dX7_lagNow_59 : decode cX7_lagNow 59 = .ok (.iload 4, 2) := by decide +kernel
theorem dX7_lagNow_61 : decode cX7_lagNow 61 = .ok (.aload_n 0, 1) := by decide +kernel
theorem dX7_lagNow_62 : decode cX7_lagNow 62 = .ok (.iload 7, 2) := by decide +kernel
theorem dX7_lagNow_64 : decode cX7_lagNow 64 = .ok (.invokevirtual 117, 3) := by decide +kernel
theorem dX7_lagNow_67 : decode cX7_lagNow 67 = .ok (.ifCond .ne 29, 3) := by decide +kernel
theorem dX7_lagNow_70 : decode cX7_lagNow 70 = .ok (.aload_n 0, 1) := by decide +kernel
theorem dX7_lagNow_71 : decode cX7_lagNow 71 = .ok (.getfield 54, 3) := by decide +kernel
theorem dX7_lagNow_74 : decode cX7_lagNow 74 = .ok (.iload 7, 2) := by decide +kernel
theorem dX7_lagNow_76 : decode cX7_lagNow 76 = .ok (.baload, 1) := by decide +kernel
theorem dX7_lagNow_77 : decode cX7_lagNow 77 = .ok (.ifCond .ne 19, 3) := by decide +kernel
theorem dX7_lagNow_80 : decode cX7_lagNow 80 = .ok (.iload 8, 2) := by decide +kernel
theorem dX7_lagNow_82 : decode cX7_lagNow 82 = .ok (.iconst 3, 1) := by decide +kernel
theorem dX7_lagNow_83 : decode cX7_lagNow 83 = .ok (.if_icmp .eq 13, 3) := by decide +kernel
theorem dX7_lagNow_86 : decode cX7_lagNow 86 = .ok (.iload 8, 2) := by decide +kernel
theorem dX7_lagNow_88 : decode cX7_lagNow 88 = .ok (.iconst 4, 1) := by decide +kernel
theorem dX7_lagNow_89 : decode cX7_lagNow 89 = .ok (.if_icmp .eq 7, 3) := by decide +kernel
theorem dX7_lagNow_92 : decode cX7_lagNow 92 = .ok (.iconst 1, 1) := by decide +kernel
theorem dX7_lagNow_93 : decode cX7_lagNow 93 = .ok (.goto 4, 3) := by decide +kernel
theorem dX7_lagNow_96 : decode cX7_lagNow 96 = .ok (.iconst 0, 1) := by decide +kernel
theorem dX7_lagNow_97 : decode cX7_lagNow 97 = .ok (.iadd, 1) := by decide +kernel
theorem dX7_lagNow_98 : decode cX7_lagNow 98 = .ok (.istore 4, 2) := by decide +kernel
theorem dX7_lagNow_100 : decode cX7_lagNow 100 = .ok (.iinc 6 1, 3) := by decide +kernel
theorem dX7_lagNow_103 : decode cX7_lagNow 103 = .ok (.goto (-74), 3) := by decide +kernel
theorem dX7_lagNow_106 : decode cX7_lagNow 106 = .ok (.iload 4, 2) := by decide +kernel
theorem dX7_lagNow_108 : decode cX7_lagNow 108 = .ok (.ireturn, 1) := by decide +kernel
theorem dX7_lag_0 : decode cX7_lag 0 = .ok (.aload_n 0, 1) := by decide +kernel
theorem dX7_lag_1 : decode cX7_lag 1 = .ok (.iconst 0, 1) := by decide +kernel
theorem dX7_lag_2 : decode cX7_lag 2 = .ok (.putfield 93, 3) := by decide +kernel
theorem dX7_lag_5 : decode cX7_lag 5 = .ok (.aload_n 0, 1) := by decide +kernel
theorem dX7_lag_6 : decode cX7_lag 6 = .ok (.iload_n 1, 1) := by decide +kernel
theorem dX7_lag_7 : decode cX7_lag 7 = .ok (.iload_n 2, 1) := by decide +kernel
theorem dX7_lag_8 : decode cX7_lag 8 = .ok (.invokevirtual 220, 3) := by decide +kernel
theorem dX7_lag_11 : decode cX7_lag 11 = .ok (.ifCond .eq 12, 3) := by decide +kernel
theorem dX7_lag_14 : decode cX7_lag 14 = .ok (.aload_n 0, 1) := by decide +kernel
theorem dX7_lag_15 : decode cX7_lag 15 = .ok (.iload_n 1, 1) := by decide +kernel
theorem dX7_lag_16 : decode cX7_lag 16 = .ok (.iload_n 2, 1) := by decide +kernel
theorem dX7_lag_17 : decode cX7_lag 17 = .ok (.invokevirtual 234, 3) := by decide +kernel
theorem dX7_lag_20 : decode cX7_lag 20 = .ok (.goto 8, 3) := by decide +kernel
theorem dX7_lag_23 : decode cX7_lag 23 = .ok (.aload_n 0, 1) := by decide +kernel
theorem dX7_lag_24 : decode cX7_lag 24 = .ok (.iconst 1, 1) := by decide +kernel
theorem dX7_lag_25 : decode cX7_lag 25 = .ok (.invokevirtual 134, 3) := by decide +kernel
theorem dX7_lag_28 : decode cX7_lag 28 = .ok (.ireturn, 1) := by decide +kernel
theorem dX7_countOf_0 : decode cX7_countOf 0 = .ok (.iconst 0, 1) := by decide +kernel
theorem dX7_countOf_1 : decode cX7_countOf 1 = .ok (.istore_n 3, 1) := by decide +kernel
theorem dX7_countOf_2 : decode cX7_countOf 2 = .ok (.iconst 0, 1) := by decide +kernel
theorem dX7_countOf_3 : decode cX7_countOf 3 = .ok (.istore 4, 2) := by decide +kernel
theorem dX7_countOf_5 : decode cX7_countOf 5 = .ok (.iload 4, 2) := by decide +kernel
theorem dX7_countOf_7 : decode cX7_countOf 7 = .ok (.aload_n 0, 1) := by decide +kernel
theorem dX7_countOf_8 : decode cX7_countOf 8 = .ok (.getfield 140, 3) := by decide +kernel
theorem dX7_countOf_11 : decode cX7_countOf 11 = .ok (.if_icmp .ge 33, 3) := by decide +kernel
theorem dX7_countOf_14 : decode cX7_countOf 14 = .ok (.iload_n 3, 1) := by decide +kernel
theorem dX7_countOf_15 : decode cX7_countOf 15 = .ok (.aload_n 0, 1) := by decide +kernel
theorem dX7_countOf_16 : decode cX7_countOf 16 = .ok (.getfield 81, 3) := by decide +kernel
theorem dX7_countOf_19 : decode cX7_countOf 19 = .ok (.iload_n 1, 1) := by decide +kernel
theorem dX7_countOf_20 : decode cX7_countOf 20 = .ok (.bipush 80, 2) := by decide +kernel
theorem dX7_countOf_22 : decode cX7_countOf 22 = .ok (.imul, 1) := by decide +kernel
theorem dX7_countOf_23 : decode cX7_countOf 23 = .ok (.iload 4, 2) := by decide +kernel
theorem dX7_countOf_25 : decode cX7_countOf 25 = .ok (.iadd, 1) := by decide +kernel
theorem dX7_countOf_26 : decode cX7_countOf 26 = .ok (.iaload, 1) := by decide +kernel
theorem dX7_countOf_27 : decode cX7_countOf 27 = .ok (.iload_n 2, 1) := by decide +kernel
theorem dX7_countOf_28 : decode cX7_countOf 28 = .ok (.if_icmp .ne 7, 3) := by decide +kernel
theorem dX7_countOf_31 : decode cX7_countOf 31 = .ok (.iconst 1, 1) := by decide +kernel
theorem dX7_countOf_32 : decode cX7_countOf 32 = .ok (.goto 4, 3) := by decide +kernel
theorem dX7_countOf_35 : decode cX7_countOf 35 = .ok (.iconst 0, 1) := by decide +kernel
theorem dX7_countOf_36 : decode cX7_countOf 36 = .ok (.iadd, 1) := by decide +kernel
theorem dX7_countOf_37 : decode cX7_countOf 37 = .ok (.istore_n 3, 1) := by decide +kernel
theorem dX7_countOf_38 : decode cX7_countOf 38 = .ok (.iinc 4 1, 3) := by decide +kernel
theorem dX7_countOf_41 : decode cX7_countOf 41 = .ok (.goto (-36), 3) := by decide +kernel
theorem dX7_countOf_44 : decode cX7_countOf 44 = .ok (.iload_n 3, 1) := by decide +kernel
theorem dX7_countOf_45 : decode cX7_countOf 45 = .ok (.ireturn, 1) := by decide +kernel
theorem dX7_aside_0 : decode cX7_aside 0 = .ok (.aload_n 0, 1) := by decide +kernel
theorem dX7_aside_1 : decode cX7_aside 1 = .ok (.iconst 0, 1) := by decide +kernel
theorem dX7_aside_2 : decode cX7_aside 2 = .ok (.putfield 93, 3) := by decide +kernel
theorem dX7_aside_5 : decode cX7_aside 5 = .ok (.aload_n 0, 1) := by decide +kernel
theorem dX7_aside_6 : decode cX7_aside 6 = .ok (.iload_n 1, 1) := by decide +kernel
theorem dX7_aside_7 : decode cX7_aside 7 = .ok (.invokevirtual 110, 3) := by decide +kernel
theorem dX7_aside_10 : decode cX7_aside 10 = .ok (.ifCond .eq 12, 3) := by decide +kernel
theorem dX7_aside_13 : decode cX7_aside 13 = .ok (.aload_n 0, 1) := by decide +kernel
theorem dX7_aside_14 : decode cX7_aside 14 = .ok (.iload_n 1, 1) := by decide +kernel
theorem dX7_aside_15 : decode cX7_aside 15 = .ok (.iconst 4, 1) := by decide +kernel
theorem dX7_aside_16 : decode cX7_aside 16 = .ok (.invokevirtual 237, 3) := by decide +kernel
theorem dX7_aside_19 : decode cX7_aside 19 = .ok (.goto 8, 3) := by decide +kernel
theorem dX7_aside_22 : decode cX7_aside 22 = .ok (.aload_n 0, 1) := by decide +kernel
theorem dX7_aside_23 : decode cX7_aside 23 = .ok (.iconst 1, 1) := by decide +kernel
theorem dX7_aside_24 : decode cX7_aside 24 = .ok (.invokevirtual 134, 3) := by decide +kernel
theorem dX7_aside_27 : decode cX7_aside 27 = .ok (.ireturn, 1) := by decide +kernel
theorem dX7_meanTries_0 : decode cX7_meanTries 0 = .ok (.aload_n 0, 1) := by decide +kernel
theorem dX7_meanTries_1 : decode cX7_meanTries 1 = .ok (.aload_n 0, 1) := by decide +kernel
theorem dX7_meanTries_2 : decode cX7_meanTries 2 = .ok (.iload_n 1, 1) := by decide +kernel
theorem dX7_meanTries_3 : decode cX7_meanTries 3 = .ok (.invokevirtual 110, 3) := by decide +kernel
theorem dX7_meanTries_6 : decode cX7_meanTries 6 = .ok (.ifCond .eq 7, 3) := by decide +kernel
theorem dX7_meanTries_9 : decode cX7_meanTries 9 = .ok (.iconst 0, 1) := by decide +kernel
theorem dX7_meanTries_10 : decode cX7_meanTries 10 = .ok (.goto 4, 3) := by decide +kernel
theorem dX7_meanTries_13 : decode cX7_meanTries 13 = .ok (.iconst 1, 1) := by decide +kernel
theorem dX7_meanTries_14 : decode cX7_meanTries 14 = .ok (.putfield 93, 3) := by decide +kernel
theorem dX7_meanTries_17 : decode cX7_meanTries 17 = .ok (.aload_n 0, 1) := by decide +kernel
theorem dX7_meanTries_18 : decode cX7_meanTries 18 = .ok (.getfield 93, 3) := by decide +kernel
theorem dX7_meanTries_21 : decode cX7_meanTries 21 = .ok (.ifCond .eq 5, 3) := by decide +kernel
theorem dX7_meanTries_24 : decode cX7_meanTries 24 = .ok (.dconst 0, 1) := by decide +kernel
theorem dX7_meanTries_25 : decode cX7_meanTries 25 = .ok (.dreturn, 1) := by decide +kernel
theorem dX7_meanTries_26 : decode cX7_meanTries 26 = .ok (.iconst 0, 1) := by decide +kernel
theorem dX7_meanTries_27 : decode cX7_meanTries 27 = .ok (.istore_n 2, 1) := by decide +kernel
theorem dX7_meanTries_28 : decode cX7_meanTries 28 = .ok (.iconst 0, 1) := by decide +kernel
theorem dX7_meanTries_29 : decode cX7_meanTries 29 = .ok (.istore_n 3, 1) := by decide +kernel
theorem dX7_meanTries_30 : decode cX7_meanTries 30 = .ok (.iload_n 3, 1) := by decide +kernel
theorem dX7_meanTries_31 : decode cX7_meanTries 31 = .ok (.aload_n 0, 1) := by decide +kernel
theorem dX7_meanTries_32 : decode cX7_meanTries 32 = .ok (.getfield 140, 3) := by decide +kernel
theorem dX7_meanTries_35 : decode cX7_meanTries 35 = .ok (.if_icmp .ge 42, 3) := by decide +kernel
theorem dX7_meanTries_38 : decode cX7_meanTries 38 = .ok (.iload_n 2, 1) := by decide +kernel
theorem dX7_meanTries_39 : decode cX7_meanTries 39 = .ok (.aload_n 0, 1) := by decide +kernel
theorem dX7_meanTries_40 : decode cX7_meanTries 40 = .ok (.getfield 81, 3) := by decide +kernel
theorem dX7_meanTries_43 : decode cX7_meanTries 43 = .ok (.iload_n 1, 1) := by decide +kernel
theorem dX7_meanTries_44 : decode cX7_meanTries 44 = .ok (.bipush 80, 2) := by decide +kernel
theorem dX7_meanTries_46 : decode cX7_meanTries 46 = .ok (.imul, 1) := by decide +kernel
theorem dX7_meanTries_47 : decode cX7_meanTries 47 = .ok (.iload_n 3, 1) := by decide +kernel
theorem dX7_meanTries_48 : decode cX7_meanTries 48 = .ok (.iadd, 1) := by decide +kernel
theorem dX7_meanTries_49 : decode cX7_meanTries 49 = .ok (.iaload, 1) := by decide +kernel
theorem dX7_meanTries_50 : decode cX7_meanTries 50 = .ok (.iconst 3, 1) := by decide +kernel
theorem dX7_meanTries_51 : decode cX7_meanTries 51 = .ok (.if_icmp .ne 17, 3) := by decide +kernel
theorem dX7_meanTries_54 : decode cX7_meanTries 54 = .ok (.aload_n 0, 1) := by decide +kernel
theorem dX7_meanTries_55 : decode cX7_meanTries 55 = .ok (.getfield 84, 3) := by decide +kernel
theorem dX7_meanTries_58 : decode cX7_meanTries 58 = .ok (.iload_n 1, 1) := by decide +kernel
theorem dX7_meanTries_59 : decode cX7_meanTries 59 = .ok (.bipush 80, 2) := by decide +kernel
theorem dX7_meanTries_61 : decode cX7_meanTries 61 = .ok (.imul, 1) := by decide +kernel
theorem dX7_meanTries_62 : decode cX7_meanTries 62 = .ok (.iload_n 3, 1) := by decide +kernel
theorem dX7_meanTries_63 : decode cX7_meanTries 63 = .ok (.iadd, 1) := by decide +kernel
theorem dX7_meanTries_64 : decode cX7_meanTries 64 = .ok (.iaload, 1) := by decide +kernel
theorem dX7_meanTries_65 : decode cX7_meanTries 65 = .ok (.goto 4, 3) := by decide +kernel
theorem dX7_meanTries_68 : decode cX7_meanTries 68 = .ok (.iconst 0, 1) := by decide +kernel
theorem dX7_meanTries_69 : decode cX7_meanTries 69 = .ok (.iadd, 1) := by decide +kernel
theorem dX7_meanTries_70 : decode cX7_meanTries 70 = .ok (.istore_n 2, 1) := by decide +kernel
theorem dX7_meanTries_71 : decode cX7_meanTries 71 = .ok (.iinc 3 1, 3) := by decide +kernel
theorem dX7_meanTries_74 : decode cX7_meanTries 74 = .ok (.goto (-44), 3) := by decide +kernel
theorem dX7_meanTries_77 : decode cX7_meanTries 77 = .ok (.aload_n 0, 1) := by decide +kernel
theorem dX7_meanTries_78 : decode cX7_meanTries 78 = .ok (.iload_n 1, 1) := by decide +kernel
theorem dX7_meanTries_79 : decode cX7_meanTries 79 = .ok (.iconst 3, 1) := by decide +kernel
theorem dX7_meanTries_80 : decode cX7_meanTries 80 = .ok (.invokevirtual 237, 3) := by decide +kernel
theorem dX7_meanTries_83 : decode cX7_meanTries 83 = .ok (.ifCond .ne 7, 3) := by decide +kernel
theorem dX7_meanTries_86 : decode cX7_meanTries 86 = .ok (.dconst 0, 1) := by decide +kernel
theorem dX7_meanTries_87 : decode cX7_meanTries 87 = .ok (.goto 13, 3) := by decide +kernel
theorem dX7_meanTries_90 : decode cX7_meanTries 90 = .ok (.iload_n 2, 1) := by decide +kernel
theorem dX7_meanTries_91 : decode cX7_meanTries 91 = .ok (.i2d, 1) := by decide +kernel
theorem dX7_meanTries_92 : decode cX7_meanTries 92 = .ok (.aload_n 0, 1) := by decide +kernel
theorem dX7_meanTries_93 : decode cX7_meanTries 93 = .ok (.iload_n 1, 1) := by decide +kernel
theorem dX7_meanTries_94 : decode cX7_meanTries 94 = .ok (.iconst 3, 1) := by decide +kernel
theorem dX7_meanTries_95 : decode cX7_meanTries 95 = .ok (.invokevirtual 237, 3) := by decide +kernel
theorem dX7_meanTries_98 : decode cX7_meanTries 98 = .ok (.i2d, 1) := by decide +kernel
theorem dX7_meanTries_99 : decode cX7_meanTries 99 = .ok (.ddiv, 1) := by decide +kernel
theorem dX7_meanTries_100 : decode cX7_meanTries 100 = .ok (.dreturn, 1) := by decide +kernel
theorem dX7_ledger_0 : decode cX7_ledger 0 = .ok (.aload_n 0, 1) := by decide +kernel
theorem dX7_ledger_1 : decode cX7_ledger 1 = .ok (.aload_n 0, 1) := by decide +kernel
theorem dX7_ledger_2 : decode cX7_ledger 2 = .ok (.getfield 207, 3) := by decide +kernel
theorem dX7_ledger_5 : decode cX7_ledger 5 = .ok (.invokevirtual 175, 3) := by decide +kernel
theorem dX7_ledger_8 : decode cX7_ledger 8 = .ok (.ireturn, 1) := by decide +kernel
theorem dX7_row_0 : decode cX7_row 0 = .ok (.aload_n 0, 1) := by decide +kernel
theorem dX7_row_1 : decode cX7_row 1 = .ok (.iconst 0, 1) := by decide +kernel
theorem dX7_row_2 : decode cX7_row 2 = .ok (.putfield 93, 3) := by decide +kernel
theorem dX7_row_5 : decode cX7_row 5 = .ok (.iload_n 1, 1) := by decide +kernel
theorem dX7_row_6 : decode cX7_row 6 = .ok (.iconst 0, 1) := by decide +kernel
theorem dX7_row_7 : decode cX7_row 7 = .ok (.aload_n 0, 1) := by decide +kernel
theorem dX7_row_8 : decode cX7_row 8 = .ok (.getfield 207, 3) := by decide +kernel
theorem dX7_row_11 : decode cX7_row 11 = .ok (.iconst 1, 1) := by decide +kernel
theorem dX7_row_12 : decode cX7_row 12 = .ok (.isub, 1) := by decide +kernel
theorem dX7_row_13 : decode cX7_row 13 = .ok (.invokestatic 99, 3) := by decide +kernel
theorem dX7_row_16 : decode cX7_row 16 = .ok (.ifCond .ne 9, 3) := by decide +kernel
theorem dX7_row_19 : decode cX7_row 19 = .ok (.aload_n 0, 1) := by decide +kernel
theorem dX7_row_20 : decode cX7_row 20 = .ok (.iconst 1, 1) := by decide +kernel
theorem dX7_row_21 : decode cX7_row 21 = .ok (.invokevirtual 134, 3) := by decide +kernel
theorem dX7_row_24 : decode cX7_row 24 = .ok (.ireturn, 1) := by decide +kernel
theorem dX7_row_25 : decode cX7_row 25 = .ok (.iload_n 2, 1) := by decide +kernel
theorem dX7_row_26 : decode cX7_row 26 = .ok (.iconst 0, 1) := by decide +kernel
theorem dX7_row_27 : decode cX7_row 27 = .ok (.iconst 4, 1) := by decide +kernel
theorem dX7_row_28 : decode cX7_row 28 = .ok (.invokestatic 99, 3) := by decide +kernel
theorem dX7_row_31 : decode cX7_row 31 = .ok (.ifCond .eq 16, 3) := by decide +kernel
theorem dX7_row_34 : decode cX7_row 34 = .ok (.aload_n 0, 1) := by decide +kernel
theorem dX7_row_35 : decode cX7_row 35 = .ok (.getfield 90, 3) := by decide +kernel
theorem dX7_row_38 : decode cX7_row 38 = .ok (.iload_n 1, 1) := by decide +kernel
theorem dX7_row_39 : decode cX7_row 39 = .ok (.iconst 5, 1) := by decide +kernel
theorem dX7_row_40 : decode cX7_row 40 = .ok (.imul, 1) := by decide +kernel
theorem dX7_row_41 : decode cX7_row 41 = .ok (.iload_n 2, 1) := by decide +kernel
theorem dX7_row_42 : decode cX7_row 42 = .ok (.iadd, 1) := by decide +kernel
theorem dX7_row_43 : decode cX7_row 43 = .ok (.iaload, 1) := by decide +kernel
theorem dX7_row_44 : decode cX7_row 44 = .ok (.goto 8, 3) := by decide +kernel
theorem dX7_row_47 : decode cX7_row 47 = .ok (.aload_n 0, 1) := by decide +kernel
theorem dX7_row_48 : decode cX7_row 48 = .ok (.iconst 2, 1) := by decide +kernel
theorem dX7_row_49 : decode cX7_row 49 = .ok (.invokevirtual 134, 3) := by decide +kernel
theorem dX7_row_52 : decode cX7_row 52 = .ok (.ireturn, 1) := by decide +kernel
theorem dX7_wouldNow_0 : decode cX7_wouldNow 0 = .ok (.aload_n 0, 1) := by decide +kernel
theorem dX7_wouldNow_1 : decode cX7_wouldNow 1 = .ok (.getfield 78, 3) := by decide +kernel
theorem dX7_wouldNow_4 : decode cX7_wouldNow 4 = .ok (.iload_n 1, 1) := by decide +kernel
theorem dX7_wouldNow_5 : decode cX7_wouldNow 5 = .ok (.bipush 6, 2) := by decide +kernel
theorem dX7_wouldNow_7 : decode cX7_wouldNow 7 = .ok (.imul, 1) := by decide +kernel
theorem dX7_wouldNow_8 : decode cX7_wouldNow 8 = .ok (.iload_n 2, 1) := by decide +kernel
theorem dX7_wouldNow_9 : decode cX7_wouldNow 9 = .ok (.iadd, 1) := by decide +kernel
theorem dX7_wouldNow_10 : decode cX7_wouldNow 10 = .ok (.baload, 1) := by decide +kernel
theorem dX7_wouldNow_11 : decode cX7_wouldNow 11 = .ok (.ifCond .eq 12, 3) := by decide +kernel
theorem dX7_wouldNow_14 : decode cX7_wouldNow 14 = .ok (.aload_n 0, 1) := by decide +kernel
theorem dX7_wouldNow_15 : decode cX7_wouldNow 15 = .ok (.iload_n 1, 1) := by decide +kernel
theorem dX7_wouldNow_16 : decode cX7_wouldNow 16 = .ok (.iload_n 2, 1) := by decide +kernel
theorem dX7_wouldNow_17 : decode cX7_wouldNow 17 = .ok (.invokevirtual 210, 3) := by decide +kernel
theorem dX7_wouldNow_20 : decode cX7_wouldNow 20 = .ok (.goto 4, 3) := by decide +kernel
theorem dX7_wouldNow_23 : decode cX7_wouldNow 23 = .ok (.iconst (-1), 1) := by decide +kernel
theorem dX7_wouldNow_24 : decode cX7_wouldNow 24 = .ok (.istore_n 3, 1) := by decide +kernel
theorem dX7_wouldNow_25 : decode cX7_wouldNow 25 = .ok (.iload_n 3, 1) := by decide +kernel
theorem dX7_wouldNow_26 : decode cX7_wouldNow 26 = .ok (.iconst (-1), 1) := by decide +kernel
theorem dX7_wouldNow_27 : decode cX7_wouldNow 27 = .ok (.if_icmp .ne 7, 3) := by decide +kernel
theorem dX7_wouldNow_30 : decode cX7_wouldNow 30 = .ok (.iconst (-1), 1) := by decide +kernel
theorem dX7_wouldNow_31 : decode cX7_wouldNow 31 = .ok (.goto 18, 3) := by decide +kernel
theorem dX7_wouldNow_34 : decode cX7_wouldNow 34 = .ok (.aload_n 0, 1) := by decide +kernel
theorem dX7_wouldNow_35 : decode cX7_wouldNow 35 = .ok (.getfield 36, 3) := by decide +kernel
theorem dX7_wouldNow_38 : decode cX7_wouldNow 38 = .ok (.iload_n 3, 1) := by decide +kernel
theorem dX7_wouldNow_39 : decode cX7_wouldNow 39 = .ok (.iaload, 1) := by decide +kernel
theorem dX7_wouldNow_40 : decode cX7_wouldNow 40 = .ok (.aload_n 0, 1) := by decide +kernel
theorem dX7_wouldNow_41 : decode cX7_wouldNow 41 = .ok (.getfield 39, 3) := by decide +kernel
theorem dX7_wouldNow_44 : decode cX7_wouldNow 44 = .ok (.iload_n 3, 1) := by decide +kernel
theorem dX7_wouldNow_45 : decode cX7_wouldNow 45 = .ok (.iaload, 1) := by decide +kernel
theorem dX7_wouldNow_46 : decode cX7_wouldNow 46 = .ok (.invokestatic 217, 3) := by decide +kernel
theorem dX7_wouldNow_49 : decode cX7_wouldNow 49 = .ok (.ireturn, 1) := by decide +kernel
theorem dX7_wouldTake_0 : decode cX7_wouldTake 0 = .ok (.aload_n 0, 1) := by decide +kernel
theorem dX7_wouldTake_1 : decode cX7_wouldTake 1 = .ok (.iconst 0, 1) := by decide +kernel
theorem dX7_wouldTake_2 : decode cX7_wouldTake 2 = .ok (.putfield 93, 3) := by decide +kernel
theorem dX7_wouldTake_5 : decode cX7_wouldTake 5 = .ok (.aload_n 0, 1) := by decide +kernel
theorem dX7_wouldTake_6 : decode cX7_wouldTake 6 = .ok (.iload_n 1, 1) := by decide +kernel
theorem dX7_wouldTake_7 : decode cX7_wouldTake 7 = .ok (.invokevirtual 110, 3) := by decide +kernel
theorem dX7_wouldTake_10 : decode cX7_wouldTake 10 = .ok (.ifCond .eq 19, 3) := by decide +kernel
theorem dX7_wouldTake_13 : decode cX7_wouldTake 13 = .ok (.iload_n 2, 1) := by decide +kernel
theorem dX7_wouldTake_14 : decode cX7_wouldTake 14 = .ok (.invokestatic 191, 3) := by decide +kernel
theorem dX7_wouldTake_17 : decode cX7_wouldTake 17 = .ok (.ifCond .eq 12, 3) := by decide +kernel
theorem dX7_wouldTake_20 : decode cX7_wouldTake 20 = .ok (.aload_n 0, 1) := by decide +kernel
theorem dX7_wouldTake_21 : decode cX7_wouldTake 21 = .ok (.iload_n 1, 1) := by decide +kernel
theorem dX7_wouldTake_22 : decode cX7_wouldTake 22 = .ok (.iload_n 2, 1) := by decide +kernel
theorem dX7_wouldTake_23 : decode cX7_wouldTake 23 = .ok (.invokevirtual 240, 3) := by decide +kernel
theorem dX7_wouldTake_26 : decode cX7_wouldTake 26 = .ok (.goto 8, 3) := by decide +kernel
theorem dX7_wouldTake_29 : decode cX7_wouldTake 29 = .ok (.aload_n 0, 1) := by decide +kernel
theorem dX7_wouldTake_30 : decode cX7_wouldTake 30 = .ok (.iconst 1, 1) := by decide +kernel
theorem dX7_wouldTake_31 : decode cX7_wouldTake 31 = .ok (.invokevirtual 134, 3) := by decide +kernel
theorem dX7_wouldTake_34 : decode cX7_wouldTake 34 = .ok (.ireturn, 1) := by decide +kernel
theorem dX7_wouldRead_0 : decode cX7_wouldRead 0 = .ok (.aload_n 0, 1) := by decide +kernel
theorem dX7_wouldRead_1 : decode cX7_wouldRead 1 = .ok (.iconst 0, 1) := by decide +kernel
theorem dX7_wouldRead_2 : decode cX7_wouldRead 2 = .ok (.putfield 93, 3) := by decide +kernel
theorem dX7_wouldRead_5 : decode cX7_wouldRead 5 = .ok (.aload_n 0, 1) := by decide +kernel
theorem dX7_wouldRead_6 : decode cX7_wouldRead 6 = .ok (.iload_n 1, 1) := by decide +kernel
theorem dX7_wouldRead_7 : decode cX7_wouldRead 7 = .ok (.iload_n 3, 1) := by decide +kernel
theorem dX7_wouldRead_8 : decode cX7_wouldRead 8 = .ok (.invokevirtual 220, 3) := by decide +kernel
theorem dX7_wouldRead_11 : decode cX7_wouldRead 11 = .ok (.ifCond .eq 10, 3) := by decide +kernel
theorem dX7_wouldRead_14 : decode cX7_wouldRead 14 = .ok (.iload_n 2, 1) := by decide +kernel
theorem dX7_wouldRead_15 : decode cX7_wouldRead 15 = .ok (.invokestatic 191, 3) := by decide +kernel
theorem dX7_wouldRead_18 : decode cX7_wouldRead 18 = .ok (.ifCond .ne 9, 3) := by decide +kernel
theorem dX7_wouldRead_21 : decode cX7_wouldRead 21 = .ok (.aload_n 0, 1) := by decide +kernel
theorem dX7_wouldRead_22 : decode cX7_wouldRead 22 = .ok (.iconst 1, 1) := by decide +kernel
theorem dX7_wouldRead_23 : decode cX7_wouldRead 23 = .ok (.invokevirtual 134, 3) := by decide +kernel
theorem dX7_wouldRead_26 : decode cX7_wouldRead 26 = .ok (.ireturn, 1) := by decide +kernel
theorem dX7_wouldRead_27 : decode cX7_wouldRead 27 = .ok (.iload_n 1, 1) := by decide +kernel
theorem dX7_wouldRead_28 : decode cX7_wouldRead 28 = .ok (.bipush 6, 2) := by decide +kernel
theorem dX7_wouldRead_30 : decode cX7_wouldRead 30 = .ok (.imul, 1) := by decide +kernel
theorem dX7_wouldRead_31 : decode cX7_wouldRead 31 = .ok (.iload_n 2, 1) := by decide +kernel
theorem dX7_wouldRead_32 : decode cX7_wouldRead 32 = .ok (.iadd, 1) := by decide +kernel
theorem dX7_wouldRead_33 : decode cX7_wouldRead 33 = .ok (.istore 4, 2) := by decide +kernel
theorem dX7_wouldRead_35 : decode cX7_wouldRead 35 = .ok (.aload_n 0, 1) := by decide +kernel
theorem dX7_wouldRead_36 : decode cX7_wouldRead 36 = .ok (.getfield 78, 3) := by decide +kernel
theorem dX7_wouldRead_39 : decode cX7_wouldRead 39 = .ok (.iload 4, 2) := by decide +kernel
theorem dX7_wouldRead_41 : decode cX7_wouldRead 41 = .ok (.aload_n 0, 1) := by decide +kernel
theorem dX7_wouldRead_42 : decode cX7_wouldRead 42 = .ok (.getfield 78, 3) := by decide +kernel
theorem dX7_wouldRead_45 : decode cX7_wouldRead 45 = .ok (.iload 4, 2) := by decide +kernel
theorem dX7_wouldRead_47 : decode cX7_wouldRead 47 = .ok (.baload, 1) := by decide +kernel
theorem dX7_wouldRead_48 : decode cX7_wouldRead 48 = .ok (.ifCond .ne 7, 3) := by decide +kernel
theorem dX7_wouldRead_51 : decode cX7_wouldRead 51 = .ok (.iconst 1, 1) := by decide +kernel
theorem dX7_wouldRead_52 : decode cX7_wouldRead 52 = .ok (.goto 4, 3) := by decide +kernel
theorem dX7_wouldRead_55 : decode cX7_wouldRead 55 = .ok (.iconst 0, 1) := by decide +kernel
theorem dX7_wouldRead_56 : decode cX7_wouldRead 56 = .ok (.bastore, 1) := by decide +kernel
theorem dX7_wouldRead_57 : decode cX7_wouldRead 57 = .ok (.aload_n 0, 1) := by decide +kernel
theorem dX7_wouldRead_58 : decode cX7_wouldRead 58 = .ok (.iload_n 1, 1) := by decide +kernel
theorem dX7_wouldRead_59 : decode cX7_wouldRead 59 = .ok (.invokevirtual 197, 3) := by decide +kernel
theorem dX7_wouldRead_62 : decode cX7_wouldRead 62 = .ok (.iload_n 3, 1) := by decide +kernel
theorem dX7_wouldRead_63 : decode cX7_wouldRead 63 = .ok (.iaload, 1) := by decide +kernel
theorem dX7_wouldRead_64 : decode cX7_wouldRead 64 = .ok (.istore 5, 2) := by decide +kernel
theorem dX7_wouldRead_66 : decode cX7_wouldRead 66 = .ok (.aload_n 0, 1) := by decide +kernel
theorem dX7_wouldRead_67 : decode cX7_wouldRead 67 = .ok (.getfield 78, 3) := by decide +kernel
theorem dX7_wouldRead_70 : decode cX7_wouldRead 70 = .ok (.iload 4, 2) := by decide +kernel
theorem dX7_wouldRead_72 : decode cX7_wouldRead 72 = .ok (.aload_n 0, 1) := by decide +kernel
theorem dX7_wouldRead_73 : decode cX7_wouldRead 73 = .ok (.getfield 78, 3) := by decide +kernel
theorem dX7_wouldRead_76 : decode cX7_wouldRead 76 = .ok (.iload 4, 2) := by decide +kernel
theorem dX7_wouldRead_78 : decode cX7_wouldRead 78 = .ok (.baload, 1) := by decide +kernel
theorem dX7_wouldRead_79 : decode cX7_wouldRead 79 = .ok (.ifCond .ne 7, 3) := by decide +kernel
theorem dX7_wouldRead_82 : decode cX7_wouldRead 82 = .ok (.iconst 1, 1) := by decide +kernel
theorem dX7_wouldRead_83 : decode cX7_wouldRead 83 = .ok (.goto 4, 3) := by decide +kernel
theorem dX7_wouldRead_86 : decode cX7_wouldRead 86 = .ok (.iconst 0, 1) := by decide +kernel
theorem dX7_wouldRead_87 : decode cX7_wouldRead 87 = .ok (.bastore, 1) := by decide +kernel
theorem dX7_wouldRead_88 : decode cX7_wouldRead 88 = .ok (.iload 5, 2) := by decide +kernel
theorem dX7_wouldRead_90 : decode cX7_wouldRead 90 = .ok (.ireturn, 1) := by decide +kernel
theorem dX7_nextNow_0 : decode cX7_nextNow 0 = .ok (.iconst (-1), 1) := by decide +kernel
theorem dX7_nextNow_1 : decode cX7_nextNow 1 = .ok (.istore_n 2, 1) := by decide +kernel
theorem dX7_nextNow_2 : decode cX7_nextNow 2 = .ok (.iconst 0, 1) := by decide +kernel
theorem dX7_nextNow_3 : decode cX7_nextNow 3 = .ok (.istore_n 3, 1) := by decide +kernel
theorem dX7_nextNow_4 : decode cX7_nextNow 4 = .ok (.iload_n 3, 1) := by decide +kernel
theorem dX7_nextNow_5 : decode cX7_nextNow 5 = .ok (.aload_n 0, 1) := by decide +kernel
theorem dX7_nextNow_6 : decode cX7_nextNow 6 = .ok (.getfield 140, 3) := by decide +kernel
theorem dX7_nextNow_9 : decode cX7_nextNow 9 = .ok (.if_icmp .ge 153, 3) := by decide +kernel
theorem dX7_nextNow_12 : decode cX7_nextNow 12 = .ok (.iload_n 1, 1) := by decide +kernel
theorem dX7_nextNow_13 : decode cX7_nextNow 13 = .ok (.bipush 80, 2) := by decide +kernel
theorem dX7_nextNow_15 : decode cX7_nextNow 15 = .ok (.imul, 1) := by decide +kernel
theorem dX7_nextNow_16 : decode cX7_nextNow 16 = .ok (.iload_n 3, 1) := by decide +kernel
theorem dX7_nextNow_17 : decode cX7_nextNow 17 = .ok (.iadd, 1) := by decide +kernel
theorem dX7_nextNow_18 : decode cX7_nextNow 18 = .ok (.istore 4, 2) := by decide +kernel
theorem dX7_nextNow_20 : decode cX7_nextNow 20 = .ok (.aload_n 0, 1) := by decide +kernel
theorem dX7_nextNow_21 : decode cX7_nextNow 21 = .ok (.getfield 36, 3) := by decide +kernel
theorem dX7_nextNow_24 : decode cX7_nextNow 24 = .ok (.iload_n 3, 1) := by decide +kernel
theorem dX7_nextNow_25 : decode cX7_nextNow 25 = .ok (.iaload, 1) := by decide +kernel
theorem dX7_nextNow_26 : decode cX7_nextNow 26 = .ok (.iconst 4, 1) := by decide +kernel
theorem dX7_nextNow_27 : decode cX7_nextNow 27 = .ok (.idiv, 1) := by decide +kernel
theorem dX7_nextNow_28 : decode cX7_nextNow 28 = .ok (.aload_n 0, 1) := by decide +kernel
theorem dX7_nextNow_29 : decode cX7_nextNow 29 = .ok (.getfield 66, 3) := by decide +kernel
theorem dX7_nextNow_32 : decode cX7_nextNow 32 = .ok (.iload_n 1, 1) := by decide +kernel
theorem dX7_nextNow_33 : decode cX7_nextNow 33 = .ok (.iaload, 1) := by decide +kernel
theorem dX7_nextNow_34 : decode cX7_nextNow 34 = .ok (.if_icmp .ne 122, 3) := by decide +kernel
theorem dX7_nextNow_37 : decode cX7_nextNow 37 = .ok (.aload_n 0, 1) := by decide +kernel
theorem dX7_nextNow_38 : decode cX7_nextNow 38 = .ok (.getfield 39, 3) := by decide +kernel
theorem dX7_nextNow_41 : decode cX7_nextNow 41 = .ok (.iload_n 3, 1) := by decide +kernel
theorem dX7_nextNow_42 : decode cX7_nextNow 42 = .ok (.iaload, 1) := by decide +kernel
theorem dX7_nextNow_43 : decode cX7_nextNow 43 = .ok (.aload_n 0, 1) := by decide +kernel
theorem dX7_nextNow_44 : decode cX7_nextNow 44 = .ok (.getfield 69, 3) := by decide +kernel
theorem dX7_nextNow_47 : decode cX7_nextNow 47 = .ok (.iload_n 1, 1) := by decide +kernel
theorem dX7_nextNow_48 : decode cX7_nextNow 48 = .ok (.iconst 4, 1) := by decide +kernel
theorem dX7_nextNow_49 : decode cX7_nextNow 49 = .ok (.imul, 1) := by decide +kernel
theorem dX7_nextNow_50 : decode cX7_nextNow 50 = .ok (.aload_n 0, 1) := by decide +kernel
theorem dX7_nextNow_51 : decode cX7_nextNow 51 = .ok (.getfield 36, 3) := by decide +kernel
theorem dX7_nextNow_54 : decode cX7_nextNow 54 = .ok (.iload_n 3, 1) := by decide +kernel
theorem dX7_nextNow_55 : decode cX7_nextNow 55 = .ok (.iaload, 1) := by decide +kernel
theorem dX7_nextNow_56 : decode cX7_nextNow 56 = .ok (.iconst 4, 1) := by decide +kernel
theorem dX7_nextNow_57 : decode cX7_nextNow 57 = .ok (.irem, 1) := by decide +kernel
theorem dX7_nextNow_58 : decode cX7_nextNow 58 = .ok (.iadd, 1) := by decide +kernel
theorem dX7_nextNow_59 : decode cX7_nextNow 59 = .ok (.iaload, 1) := by decide +kernel
theorem dX7_nextNow_60 : decode cX7_nextNow 60 = .ok (.if_icmp .lt 96, 3) := by decide +kernel
theorem dX7_nextNow_63 : decode cX7_nextNow 63 = .ok (.aload_n 0, 1) := by decide +kernel
theorem dX7_nextNow_64 : decode cX7_nextNow 64 = .ok (.getfield 81, 3) := by decide +kernel
theorem dX7_nextNow_67 : decode cX7_nextNow 67 = .ok (.iload 4, 2) := by decide +kernel
theorem dX7_nextNow_69 : decode cX7_nextNow 69 = .ok (.iaload, 1) := by decide +kernel
theorem dX7_nextNow_70 : decode cX7_nextNow 70 = .ok (.iconst 2, 1) := by decide +kernel
theorem dX7_nextNow_71 : decode cX7_nextNow 71 = .ok (.if_icmp .eq 17, 3) := by decide +kernel
theorem dX7_nextNow_74 : decode cX7_nextNow 74 = .ok (.aload_n 0, 1) := by decide +kernel
theorem dX7_nextNow_75 : decode cX7_nextNow 75 = .ok (.getfield 81, 3) := by decide +kernel
theorem dX7_nextNow_78 : decode cX7_nextNow 78 = .ok (.iload 4, 2) := by decide +kernel
theorem dX7_nextNow_80 : decode cX7_nextNow 80 = .ok (.iaload, 1) := by decide +kernel
theorem dX7_nextNow_81 : decode cX7_nextNow 81 = .ok (.iconst 1, 1) := by decide +kernel
theorem dX7_nextNow_82 : decode cX7_nextNow 82 = .ok (.if_icmp .eq 6, 3) := by decide +kernel
theorem dX7_nextNow_85 : decode cX7_nextNow 85 = .ok (.goto 71, 3) := by decide +kernel
theorem dX7_nextNow_88 : decode cX7_nextNow 88 = .ok (.aload_n 0, 1) := by decide +kernel
theorem dX7_nextNow_89 : decode cX7_nextNow 89 = .ok (.getfield 81, 3) := by decide +kernel
theorem dX7_nextNow_92 : decode cX7_nextNow 92 = .ok (.iload 4, 2) := by decide +kernel
theorem dX7_nextNow_94 : decode cX7_nextNow 94 = .ok (.iaload, 1) := by decide +kernel
theorem dX7_nextNow_95 : decode cX7_nextNow 95 = .ok (.iconst 2, 1) := by decide +kernel
theorem dX7_nextNow_96 : decode cX7_nextNow 96 = .ok (.if_icmp .ne 20, 3) := by decide +kernel
theorem dX7_nextNow_99 : decode cX7_nextNow 99 = .ok (.aload_n 0, 1) := by decide +kernel
theorem dX7_nextNow_100 : decode cX7_nextNow 100 = .ok (.getfield 143, 3) := by decide +kernel
theorem dX7_nextNow_103 : decode cX7_nextNow 103 = .ok (.aload_n 0, 1) := by decide +kernel
theorem dX7_nextNow_104 : decode cX7_nextNow 104 = .ok (.getfield 87, 3) := by decide +kernel
theorem dX7_nextNow_107 : decode cX7_nextNow 107 = .ok (.iload 4, 2) := by decide +kernel
theorem dX7_nextNow_109 : decode cX7_nextNow 109 = .ok (.iaload, 1) := by decide +kernel
theorem dX7_nextNow_110 : decode cX7_nextNow 110 = .ok (.invokestatic 125, 3) := by decide +kernel
theorem dX7_nextNow_113 : decode cX7_nextNow 113 = .ok (.goto 24, 3) := by decide +kernel
theorem dX7_nextNow_116 : decode cX7_nextNow 116 = .ok (.aload_n 0, 1) := by decide +kernel
theorem dX7_nextNow_117 : decode cX7_nextNow 117 = .ok (.getfield 143, 3) := by decide +kernel
theorem dX7_nextNow_120 : decode cX7_nextNow 120 = .ok (.iconst 1, 1) := by decide +kernel
theorem dX7_nextNow_121 : decode cX7_nextNow 121 = .ok (.iadd, 1) := by decide +kernel
theorem dX7_nextNow_122 : decode cX7_nextNow 122 = .ok (.aload_n 0, 1) := by decide +kernel
theorem dX7_nextNow_123 : decode cX7_nextNow 123 = .ok (.getfield 87, 3) := by decide +kernel
theorem dX7_nextNow_126 : decode cX7_nextNow 126 = .ok (.iload 4, 2) := by decide +kernel
theorem dX7_nextNow_128 : decode cX7_nextNow 128 = .ok (.iaload, 1) := by decide +kernel
theorem dX7_nextNow_129 : decode cX7_nextNow 129 = .ok (.aload_n 0, 1) := by decide +kernel
theorem dX7_nextNow_130 : decode cX7_nextNow 130 = .ok (.getfield 13, 3) := by decide +kernel
theorem dX7_nextNow_133 : decode cX7_nextNow 133 = .ok (.iadd, 1) := by decide +kernel
theorem dX7_nextNow_134 : decode cX7_nextNow 134 = .ok (.invokestatic 125, 3) := by decide +kernel
theorem dX7_nextNow_137 : decode cX7_nextNow 137 = .ok (.istore 5, 2) := by decide +kernel
theorem dX7_nextNow_139 : decode cX7_nextNow 139 = .ok (.iload_n 2, 1) := by decide +kernel
theorem dX7_nextNow_140 : decode cX7_nextNow 140 = .ok (.iconst (-1), 1) := by decide +kernel
theorem dX7_nextNow_141 : decode cX7_nextNow 141 = .ok (.if_icmp .ne 8, 3) := by decide +kernel
theorem dX7_nextNow_144 : decode cX7_nextNow 144 = .ok (.iload 5, 2) := by decide +kernel
theorem dX7_nextNow_146 : decode cX7_nextNow 146 = .ok (.goto 9, 3) := by decide +kernel
theorem dX7_nextNow_149 : decode cX7_nextNow 149 = .ok (.iload_n 2, 1) := by decide +kernel
theorem dX7_nextNow_150 : decode cX7_nextNow 150 = .ok (.iload 5, 2) := by decide +kernel
theorem dX7_nextNow_152 : decode cX7_nextNow 152 = .ok (.invokestatic 243, 3) := by decide +kernel
theorem dX7_nextNow_155 : decode cX7_nextNow 155 = .ok (.istore_n 2, 1) := by decide +kernel
theorem dX7_nextNow_156 : decode cX7_nextNow 156 = .ok (.iinc 3 1, 3) := by decide +kernel
theorem dX7_nextNow_159 : decode cX7_nextNow 159 = .ok (.goto (-155), 3) := by decide +kernel
theorem dX7_nextNow_162 : decode cX7_nextNow 162 = .ok (.iload_n 2, 1) := by decide +kernel
theorem dX7_nextNow_163 : decode cX7_nextNow 163 = .ok (.ireturn, 1) := by decide +kernel
theorem dX7_nextTime_0 : decode cX7_nextTime 0 = .ok (.aload_n 0, 1) := by decide +kernel
theorem dX7_nextTime_1 : decode cX7_nextTime 1 = .ok (.iconst 0, 1) := by decide +kernel
theorem dX7_nextTime_2 : decode cX7_nextTime 2 = .ok (.putfield 93, 3) := by decide +kernel
theorem dX7_nextTime_5 : decode cX7_nextTime 5 = .ok (.aload_n 0, 1) := by decide +kernel
theorem dX7_nextTime_6 : decode cX7_nextTime 6 = .ok (.iload_n 1, 1) := by decide +kernel
theorem dX7_nextTime_7 : decode cX7_nextTime 7 = .ok (.invokevirtual 110, 3) := by decide +kernel
theorem dX7_nextTime_10 : decode cX7_nextTime 10 = .ok (.ifCond .eq 11, 3) := by decide +kernel
theorem dX7_nextTime_13 : decode cX7_nextTime 13 = .ok (.aload_n 0, 1) := by decide +kernel
theorem dX7_nextTime_14 : decode cX7_nextTime 14 = .ok (.iload_n 1, 1) := by decide +kernel
theorem dX7_nextTime_15 : decode cX7_nextTime 15 = .ok (.invokevirtual 246, 3) := by decide +kernel
theorem dX7_nextTime_18 : decode cX7_nextTime 18 = .ok (.goto 8, 3) := by decide +kernel
theorem dX7_nextTime_21 : decode cX7_nextTime 21 = .ok (.aload_n 0, 1) := by decide +kernel
theorem dX7_nextTime_22 : decode cX7_nextTime 22 = .ok (.iconst 1, 1) := by decide +kernel
theorem dX7_nextTime_23 : decode cX7_nextTime 23 = .ok (.invokevirtual 134, 3) := by decide +kernel
theorem dX7_nextTime_26 : decode cX7_nextTime 26 = .ok (.ireturn, 1) := by decide +kernel
theorem dX7_wouldDrop_0 : decode cX7_wouldDrop 0 = .ok (.aload_n 0, 1) := by decide +kernel
theorem dX7_wouldDrop_1 : decode cX7_wouldDrop 1 = .ok (.iconst 0, 1) := by decide +kernel
theorem dX7_wouldDrop_2 : decode cX7_wouldDrop 2 = .ok (.putfield 93, 3) := by decide +kernel
theorem dX7_wouldDrop_5 : decode cX7_wouldDrop 5 = .ok (.aload_n 0, 1) := by decide +kernel
theorem dX7_wouldDrop_6 : decode cX7_wouldDrop 6 = .ok (.iload_n 1, 1) := by decide +kernel
theorem dX7_wouldDrop_7 : decode cX7_wouldDrop 7 = .ok (.invokevirtual 103, 3) := by decide +kernel
theorem dX7_wouldDrop_10 : decode cX7_wouldDrop 10 = .ok (.ifCond .eq 12, 3) := by decide +kernel
theorem dX7_wouldDrop_13 : decode cX7_wouldDrop 13 = .ok (.aload_n 0, 1) := by decide +kernel
theorem dX7_wouldDrop_14 : decode cX7_wouldDrop 14 = .ok (.iload_n 1, 1) := by decide +kernel
theorem dX7_wouldDrop_15 : decode cX7_wouldDrop 15 = .ok (.iconst 0, 1) := by decide +kernel
theorem dX7_wouldDrop_16 : decode cX7_wouldDrop 16 = .ok (.invokevirtual 165, 3) := by decide +kernel
theorem dX7_wouldDrop_19 : decode cX7_wouldDrop 19 = .ok (.goto 8, 3) := by decide +kernel
theorem dX7_wouldDrop_22 : decode cX7_wouldDrop 22 = .ok (.aload_n 0, 1) := by decide +kernel
theorem dX7_wouldDrop_23 : decode cX7_wouldDrop 23 = .ok (.iconst 1, 1) := by decide +kernel
theorem dX7_wouldDrop_24 : decode cX7_wouldDrop 24 = .ok (.invokevirtual 134, 3) := by decide +kernel
theorem dX7_wouldDrop_27 : decode cX7_wouldDrop 27 = .ok (.ireturn, 1) := by decide +kernel
theorem dX7_digest_0 : decode cX7_digest 0 = .ok (.aload_n 0, 1) := by decide +kernel
theorem dX7_digest_1 : decode cX7_digest 1 = .ok (.iconst 0, 1) := by decide +kernel
theorem dX7_digest_2 : decode cX7_digest 2 = .ok (.putfield 93, 3) := by decide +kernel
theorem dX7_digest_5 : decode cX7_digest 5 = .ok (.ldc2_w 249, 3) := by decide +kernel
theorem dX7_digest_8 : decode cX7_digest 8 = .ok (.aload_n 0, 1) := by decide +kernel
theorem dX7_digest_9 : decode cX7_digest 9 = .ok (.getfield 143, 3) := by decide +kernel
theorem dX7_digest_12 : decode cX7_digest 12 = .ok (.i2l, 1) := by decide +kernel
theorem dX7_digest_13 : decode cX7_digest 13 = .ok (.ladd, 1) := by decide +kernel
theorem dX7_digest_14 : decode cX7_digest 14 = .ok (.ldc2_w 251, 3) := by decide +kernel
theorem dX7_digest_17 : decode cX7_digest 17 = .ok (.lmul, 1) := by decide +kernel
theorem dX7_digest_18 : decode cX7_digest 18 = .ok (.aload_n 0, 1) := by decide +kernel
theorem dX7_digest_19 : decode cX7_digest 19 = .ok (.getfield 96, 3) := by decide +kernel
theorem dX7_digest_22 : decode cX7_digest 22 = .ok (.i2l, 1) := by decide +kernel
theorem dX7_digest_23 : decode cX7_digest 23 = .ok (.ladd, 1) := by decide +kernel
theorem dX7_digest_24 : decode cX7_digest 24 = .ok (.ldc2_w 251, 3) := by decide +kernel
theorem dX7_digest_27 : decode cX7_digest 27 = .ok (.lmul, 1) := by decide +kernel
theorem dX7_digest_28 : decode cX7_digest 28 = .ok (.aload_n 0, 1) := by decide +kernel
theorem dX7_digest_29 : decode cX7_digest 29 = .ok (.getfield 107, 3) := by decide +kernel
theorem dX7_digest_32 : decode cX7_digest 32 = .ok (.i2l, 1) := by decide +kernel
theorem dX7_digest_33 : decode cX7_digest 33 = .ok (.ladd, 1) := by decide +kernel
theorem dX7_digest_34 : decode cX7_digest 34 = .ok (.ldc2_w 251, 3) := by decide +kernel
theorem dX7_digest_37 : decode cX7_digest 37 = .ok (.lmul, 1) := by decide +kernel
theorem dX7_digest_38 : decode cX7_digest 38 = .ok (.aload_n 0, 1) := by decide +kernel
theorem dX7_digest_39 : decode cX7_digest 39 = .ok (.getfield 207, 3) := by decide +kernel
theorem dX7_digest_42 : decode cX7_digest 42 = .ok (.i2l, 1) := by decide +kernel
theorem dX7_digest_43 : decode cX7_digest 43 = .ok (.ladd, 1) := by decide +kernel
theorem dX7_digest_44 : decode cX7_digest 44 = .ok (.lstore_n 1, 1) := by decide +kernel
theorem dX7_digest_45 : decode cX7_digest 45 = .ok (.iconst 0, 1) := by decide +kernel
theorem dX7_digest_46 : decode cX7_digest 46 = .ok (.istore_n 3, 1) := by decide +kernel
theorem dX7_digest_47 : decode cX7_digest 47 = .ok (.iload_n 3, 1) := by decide +kernel
theorem dX7_digest_48 : decode cX7_digest 48 = .ok (.aload_n 0, 1) := by decide +kernel
theorem dX7_digest_49 : decode cX7_digest 49 = .ok (.getfield 96, 3) := by decide +kernel
theorem dX7_digest_52 : decode cX7_digest 52 = .ok (.if_icmp .ge 158, 3) := by decide +kernel
theorem dX7_digest_55 : decode cX7_digest 55 = .ok (.lload_n 1, 1) := by decide +kernel
theorem dX7_digest_56 : decode cX7_digest 56 = .ok (.ldc2_w 251, 3) := by decide +kernel
theorem dX7_digest_59 : decode cX7_digest 59 = .ok (.lmul, 1) := by decide +kernel
theorem dX7_digest_60 : decode cX7_digest 60 = .ok (.aload_n 0, 1) := by decide +kernel
theorem dX7_digest_61 : decode cX7_digest 61 = .ok (.iload_n 3, 1) := by decide +kernel
theorem dX7_digest_62 : decode cX7_digest 62 = .ok (.invokevirtual 188, 3) := by decide +kernel
theorem dX7_digest_65 : decode cX7_digest 65 = .ok (.i2l, 1) := by decide +kernel
theorem dX7_digest_66 : decode cX7_digest 66 = .ok (.ladd, 1) := by decide +kernel
theorem dX7_digest_67 : decode cX7_digest 67 = .ok (.ldc2_w 251, 3) := by decide +kernel
theorem dX7_digest_70 : decode cX7_digest 70 = .ok (.lmul, 1) := by decide +kernel
theorem dX7_digest_71 : decode cX7_digest 71 = .ok (.aload_n 0, 1) := by decide +kernel
theorem dX7_digest_72 : decode cX7_digest 72 = .ok (.iload_n 3, 1) := by decide +kernel
theorem dX7_digest_73 : decode cX7_digest 73 = .ok (.iconst 0, 1) := by decide +kernel
theorem dX7_digest_74 : decode cX7_digest 74 = .ok (.invokevirtual 165, 3) := by decide +kernel
theorem dX7_digest_77 : decode cX7_digest 77 = .ok (.i2l, 1) := by decide +kernel
theorem dX7_digest_78 : decode cX7_digest 78 = .ok (.ladd, 1) := by decide +kernel
theorem dX7_digest_79 : decode cX7_digest 79 = .ok (.lstore_n 1, 1) := by decide +kernel
theorem dX7_digest_80 : decode cX7_digest 80 = .ok (.iload_n 3, 1) := by decide +kernel
theorem dX7_digest_81 : decode cX7_digest 81 = .ok (.iconst 4, 1) := by decide +kernel
theorem dX7_digest_82 : decode cX7_digest 82 = .ok (.imul, 1) := by decide +kernel
theorem dX7_digest_83 : decode cX7_digest 83 = .ok (.istore 4, 2) := by decide +kernel
theorem dX7_digest_85 : decode cX7_digest 85 = .ok (.iload 4, 2) := by decide +kernel
theorem dX7_digest_87 : decode cX7_digest 87 = .ok (.iload_n 3, 1) := by decide +kernel
theorem dX7_digest_88 : decode cX7_digest 88 = .ok (.iconst 4, 1) := by decide +kernel
theorem dX7_digest_89 : decode cX7_digest 89 = .ok (.imul, 1) := by decide +kernel
theorem dX7_digest_90 : decode cX7_digest 90 = .ok (.aload_n 0, 1) := by decide +kernel
theorem dX7_digest_91 : decode cX7_digest 91 = .ok (.getfield 16, 3) := by decide +kernel
theorem dX7_digest_94 : decode cX7_digest 94 = .ok (.iload_n 3, 1) := by decide +kernel
theorem dX7_digest_95 : decode cX7_digest 95 = .ok (.iaload, 1) := by decide +kernel
theorem dX7_digest_96 : decode cX7_digest 96 = .ok (.iadd, 1) := by decide +kernel
theorem dX7_digest_97 : decode cX7_digest 97 = .ok (.if_icmp .ge 107, 3) := by decide +kernel
theorem dX7_digest_100 : decode cX7_digest 100 = .ok (.lload_n 1, 1) := by decide +kernel
theorem dX7_digest_101 : decode cX7_digest 101 = .ok (.ldc2_w 251, 3) := by decide +kernel
theorem dX7_digest_104 : decode cX7_digest 104 = .ok (.lmul, 1) := by decide +kernel
theorem dX7_digest_105 : decode cX7_digest 105 = .ok (.aload_n 0, 1) := by decide +kernel
theorem dX7_digest_106 : decode cX7_digest 106 = .ok (.getfield 23, 3) := by decide +kernel
theorem dX7_digest_109 : decode cX7_digest 109 = .ok (.iload 4, 2) := by decide +kernel
theorem dX7_digest_111 : decode cX7_digest 111 = .ok (.iaload, 1) := by decide +kernel
theorem dX7_digest_112 : decode cX7_digest 112 = .ok (.i2l, 1) := by decide +kernel
theorem dX7_digest_113 : decode cX7_digest 113 = .ok (.ladd, 1) := by decide +kernel
theorem dX7_digest_114 : decode cX7_digest 114 = .ok (.ldc2_w 251, 3) := by decide +kernel
theorem dX7_digest_117 : decode cX7_digest 117 = .ok (.lmul, 1) := by decide +kernel
theorem dX7_digest_118 : decode cX7_digest 118 = .ok (.aload_n 0, 1) := by decide +kernel
theorem dX7_digest_119 : decode cX7_digest 119 = .ok (.getfield 26, 3) := by decide +kernel
theorem dX7_digest_122 : decode cX7_digest 122 = .ok (.iload 4, 2) := by decide +kernel
theorem dX7_digest_124 : decode cX7_digest 124 = .ok (.iaload, 1) := by decide +kernel
theorem dX7_digest_125 : decode cX7_digest 125 = .ok (.i2l, 1) := by decide +kernel
theorem dX7_digest_126 : decode cX7_digest 126 = .ok (.ladd, 1) := by decide +kernel
theorem dX7_digest_127 : decode cX7_digest 127 = .ok (.ldc2_w 251, 3) := by decide +kernel
theorem dX7_digest_130 : decode cX7_digest 130 = .ok (.lmul, 1) := by decide +kernel
theorem dX7_digest_131 : decode cX7_digest 131 = .ok (.aload_n 0, 1) := by decide +kernel
theorem dX7_digest_132 : decode cX7_digest 132 = .ok (.iload 4, 2) := by decide +kernel
theorem dX7_digest_134 : decode cX7_digest 134 = .ok (.invokevirtual 158, 3) := by decide +kernel
theorem dX7_digest_137 : decode cX7_digest 137 = .ok (.i2l, 1) := by decide +kernel
theorem dX7_digest_138 : decode cX7_digest 138 = .ok (.ladd, 1) := by decide +kernel
theorem dX7_digest_139 : decode cX7_digest 139 = .ok (.lstore_n 1, 1) := by decide +kernel
theorem dX7_digest_140 : decode cX7_digest 140 = .ok (.iconst 0, 1) := by decide +kernel
theorem dX7_digest_141 : decode cX7_digest 141 = .ok (.istore 5, 2) := by decide +kernel
theorem dX7_digest_143 : decode cX7_digest 143 = .ok (.iload 5, 2) := by decide +kernel
theorem dX7_digest_145 : decode cX7_digest 145 = .ok (.aload_n 0, 1) := by decide +kernel
theorem dX7_digest_146 : decode cX7_digest 146 = .ok (.getfield 26, 3) := by decide +kernel
theorem dX7_digest_149 : decode cX7_digest 149 = .ok (.iload 4, 2) := by decide +kernel
theorem dX7_digest_151 : decode cX7_digest 151 = .ok (.iaload, 1) := by decide +kernel
theorem dX7_digest_152 : decode cX7_digest 152 = .ok (.if_icmp .ge 46, 3) := by decide +kernel
theorem dX7_digest_155 : decode cX7_digest 155 = .ok (.iconst 0, 1) := by decide +kernel
theorem dX7_digest_156 : decode cX7_digest 156 = .ok (.istore 6, 2) := by decide +kernel
theorem dX7_digest_158 : decode cX7_digest 158 = .ok (.iload 6, 2) := by decide +kernel
theorem dX7_digest_160 : decode cX7_digest 160 = .ok (.iconst 5, 1) := by decide +kernel
theorem dX7_digest_161 : decode cX7_digest 161 = .ok (.if_icmp .ge 31, 3) := by decide +kernel
theorem dX7_digest_164 : decode cX7_digest 164 = .ok (.lload_n 1, 1) := by decide +kernel
theorem dX7_digest_165 : decode cX7_digest 165 = .ok (.ldc2_w 251, 3) := by decide +kernel
theorem dX7_digest_168 : decode cX7_digest 168 = .ok (.lmul, 1) := by decide +kernel
theorem dX7_digest_169 : decode cX7_digest 169 = .ok (.aload_n 0, 1) := by decide +kernel
theorem dX7_digest_170 : decode cX7_digest 170 = .ok (.aload_n 0, 1) := by decide +kernel
theorem dX7_digest_171 : decode cX7_digest 171 = .ok (.iload 4, 2) := by decide +kernel
theorem dX7_digest_173 : decode cX7_digest 173 = .ok (.iload 5, 2) := by decide +kernel
theorem dX7_digest_175 : decode cX7_digest 175 = .ok (.invokevirtual 113, 3) := by decide +kernel
theorem dX7_digest_178 : decode cX7_digest 178 = .ok (.iload 6, 2) := by decide +kernel
theorem dX7_digest_180 : decode cX7_digest 180 = .ok (.invokevirtual 185, 3) := by decide +kernel
theorem dX7_digest_183 : decode cX7_digest 183 = .ok (.i2l, 1) := by decide +kernel
theorem dX7_digest_184 : decode cX7_digest 184 = .ok (.ladd, 1) := by decide +kernel
theorem dX7_digest_185 : decode cX7_digest 185 = .ok (.lstore_n 1, 1) := by decide +kernel
theorem dX7_digest_186 : decode cX7_digest 186 = .ok (.iinc 6 1, 3) := by decide +kernel
theorem dX7_digest_189 : decode cX7_digest 189 = .ok (.goto (-31), 3) := by decide +kernel
theorem dX7_digest_192 : decode cX7_digest 192 = .ok (.iinc 5 1, 3) := by decide +kernel
theorem dX7_digest_195 : decode cX7_digest 195 = .ok (.goto (-52), 3) := by decide +kernel
theorem dX7_digest_198 : decode cX7_digest 198 = .ok (.iinc 4 1, 3) := by decide +kernel
theorem dX7_digest_201 : decode cX7_digest 201 = .ok (.goto (-116), 3) := by decide +kernel
theorem dX7_digest_204 : decode cX7_digest 204 = .ok (.iinc 3 1, 3) := by decide +kernel
theorem dX7_digest_207 : decode cX7_digest 207 = .ok (.goto (-160), 3) := by decide +kernel
theorem dX7_digest_210 : decode cX7_digest 210 = .ok (.iconst 0, 1) := by decide +kernel
theorem dX7_digest_211 : decode cX7_digest 211 = .ok (.istore_n 3, 1) := by decide +kernel
theorem dX7_digest_212 : decode cX7_digest 212 = .ok (.iload_n 3, 1) := by decide +kernel
theorem dX7_digest_213 : decode cX7_digest 213 = .ok (.aload_n 0, 1) := by decide +kernel
theorem dX7_digest_214 : decode cX7_digest 214 = .ok (.getfield 107, 3) := by decide +kernel
theorem dX7_digest_217 : decode cX7_digest 217 = .ok (.if_icmp .ge 195, 3) := by decide +kernel
theorem dX7_digest_220 : decode cX7_digest 220 = .ok (.lload_n 1, 1) := by decide +kernel
theorem dX7_digest_221 : decode cX7_digest 221 = .ok (.ldc2_w 251, 3) := by decide +kernel
theorem dX7_digest_224 : decode cX7_digest 224 = .ok (.lmul, 1) := by decide +kernel
theorem dX7_digest_225 : decode cX7_digest 225 = .ok (.aload_n 0, 1) := by decide +kernel
theorem dX7_digest_226 : decode cX7_digest 226 = .ok (.iload_n 3, 1) := by decide +kernel
theorem dX7_digest_227 : decode cX7_digest 227 = .ok (.iconst 4, 1) := by decide +kernel
theorem dX7_digest_228 : decode cX7_digest 228 = .ok (.invokevirtual 237, 3) := by decide +kernel
theorem dX7_digest_231 : decode cX7_digest 231 = .ok (.i2l, 1) := by decide +kernel
theorem dX7_digest_232 : decode cX7_digest 232 = .ok (.ladd, 1) := by decide +kernel
theorem dX7_digest_233 : decode cX7_digest 233 = .ok (.ldc2_w 251, 3) := by decide +kernel
theorem dX7_digest_236 : decode cX7_digest 236 = .ok (.lmul, 1) := by decide +kernel
theorem dX7_digest_237 : decode cX7_digest 237 = .ok (.aload_n 0, 1) := by decide +kernel
theorem dX7_digest_238 : decode cX7_digest 238 = .ok (.iload_n 3, 1) := by decide +kernel
theorem dX7_digest_239 : decode cX7_digest 239 = .ok (.invokevirtual 246, 3) := by decide +kernel
theorem dX7_digest_242 : decode cX7_digest 242 = .ok (.i2l, 1) := by decide +kernel
theorem dX7_digest_243 : decode cX7_digest 243 = .ok (.ladd, 1) := by decide +kernel
theorem dX7_digest_244 : decode cX7_digest 244 = .ok (.lstore_n 1, 1) := by decide +kernel
theorem dX7_digest_245 : decode cX7_digest 245 = .ok (.iconst 0, 1) := by decide +kernel
theorem dX7_digest_246 : decode cX7_digest 246 = .ok (.istore 4, 2) := by decide +kernel
theorem dX7_digest_248 : decode cX7_digest 248 = .ok (.iload 4, 2) := by decide +kernel
theorem dX7_digest_250 : decode cX7_digest 250 = .ok (.aload_n 0, 1) := by decide +kernel
theorem dX7_digest_251 : decode cX7_digest 251 = .ok (.getfield 16, 3) := by decide +kernel
theorem dX7_digest_254 : decode cX7_digest 254 = .ok (.aload_n 0, 1) := by decide +kernel
theorem dX7_digest_255 : decode cX7_digest 255 = .ok (.getfield 66, 3) := by decide +kernel
theorem dX7_digest_258 : decode cX7_digest 258 = .ok (.iload_n 3, 1) := by decide +kernel
theorem dX7_digest_259 : decode cX7_digest 259 = .ok (.iaload, 1) := by decide +kernel
theorem dX7_digest_260 : decode cX7_digest 260 = .ok (.iaload, 1) := by decide +kernel
theorem dX7_digest_261 : decode cX7_digest 261 = .ok (.if_icmp .ge 145, 3) := by decide +kernel
theorem dX7_digest_264 : decode cX7_digest 264 = .ok (.iload_n 3, 1) := by decide +kernel
theorem dX7_digest_265 : decode cX7_digest 265 = .ok (.iconst 4, 1) := by decide +kernel
theorem dX7_digest_266 : decode cX7_digest 266 = .ok (.imul, 1) := by decide +kernel
theorem dX7_digest_267 : decode cX7_digest 267 = .ok (.iload 4, 2) := by decide +kernel
theorem dX7_digest_269 : decode cX7_digest 269 = .ok (.iadd, 1) := by decide +kernel
theorem dX7_digest_270 : decode cX7_digest 270 = .ok (.istore 5, 2) := by decide +kernel
theorem dX7_digest_272 : decode cX7_digest 272 = .ok (.lload_n 1, 1) := by decide +kernel
theorem dX7_digest_273 : decode cX7_digest 273 = .ok (.ldc2_w 251, 3) := by decide +kernel
theorem dX7_digest_276 : decode cX7_digest 276 = .ok (.lmul, 1) := by decide +kernel
theorem dX7_digest_277 : decode cX7_digest 277 = .ok (.aload_n 0, 1) := by decide +kernel
theorem dX7_digest_278 : decode cX7_digest 278 = .ok (.getfield 75, 3) := by decide +kernel
theorem dX7_digest_281 : decode cX7_digest 281 = .ok (.iload 5, 2) := by decide +kernel
theorem dX7_digest_283 : decode cX7_digest 283 = .ok (.iaload, 1) := by decide +kernel
theorem dX7_digest_284 : decode cX7_digest 284 = .ok (.i2l, 1) := by decide +kernel
theorem dX7_digest_285 : decode cX7_digest 285 = .ok (.ladd, 1) := by decide +kernel
theorem dX7_digest_286 : decode cX7_digest 286 = .ok (.ldc2_w 251, 3) := by decide +kernel
theorem dX7_digest_289 : decode cX7_digest 289 = .ok (.lmul, 1) := by decide +kernel
theorem dX7_digest_290 : decode cX7_digest 290 = .ok (.aload_n 0, 1) := by decide +kernel
theorem dX7_digest_291 : decode cX7_digest 291 = .ok (.getfield 69, 3) := by decide +kernel
theorem dX7_digest_294 : decode cX7_digest 294 = .ok (.iload 5, 2) := by decide +kernel
theorem dX7_digest_296 : decode cX7_digest 296 = .ok (.iaload, 1) := by decide +kernel
theorem dX7_digest_297 : decode cX7_digest 297 = .ok (.i2l, 1) := by decide +kernel
theorem dX7_digest_298 : decode cX7_digest 298 = .ok (.ladd, 1) := by decide +kernel
theorem dX7_digest_299 : decode cX7_digest 299 = .ok (.ldc2_w 251, 3) := by decide +kernel
theorem dX7_digest_302 : decode cX7_digest 302 = .ok (.lmul, 1) := by decide +kernel
theorem dX7_digest_303 : decode cX7_digest 303 = .ok (.aload_n 0, 1) := by decide +kernel
theorem dX7_digest_304 : decode cX7_digest 304 = .ok (.getfield 72, 3) := by decide +kernel
theorem dX7_digest_307 : decode cX7_digest 307 = .ok (.iload 5, 2) := by decide +kernel
theorem dX7_digest_309 : decode cX7_digest 309 = .ok (.iaload, 1) := by decide +kernel
theorem dX7_digest_310 : decode cX7_digest 310 = .ok (.i2l, 1) := by decide +kernel
theorem dX7_digest_311 : decode cX7_digest 311 = .ok (.ladd, 1) := by decide +kernel
theorem dX7_digest_312 : decode cX7_digest 312 = .ok (.ldc2_w 251, 3) := by decide +kernel
theorem dX7_digest_315 : decode cX7_digest 315 = .ok (.lmul, 1) := by decide +kernel
theorem dX7_digest_316 : decode cX7_digest 316 = .ok (.aload_n 0, 1) := by decide +kernel
theorem dX7_digest_317 : decode cX7_digest 317 = .ok (.iload_n 3, 1) := by decide +kernel
theorem dX7_digest_318 : decode cX7_digest 318 = .ok (.iload 4, 2) := by decide +kernel
theorem dX7_digest_320 : decode cX7_digest 320 = .ok (.invokevirtual 234, 3) := by decide +kernel
theorem dX7_digest_323 : decode cX7_digest 323 = .ok (.i2l, 1) := by decide +kernel
theorem dX7_digest_324 : decode cX7_digest 324 = .ok (.ladd, 1) := by decide +kernel
theorem dX7_digest_325 : decode cX7_digest 325 = .ok (.lstore_n 1, 1) := by decide +kernel
theorem dX7_digest_326 : decode cX7_digest 326 = .ok (.iconst 0, 1) := by decide +kernel
theorem dX7_digest_327 : decode cX7_digest 327 = .ok (.istore 6, 2) := by decide +kernel
theorem dX7_digest_329 : decode cX7_digest 329 = .ok (.iload 6, 2) := by decide +kernel
theorem dX7_digest_331 : decode cX7_digest 331 = .ok (.aload_n 0, 1) := by decide +kernel
theorem dX7_digest_332 : decode cX7_digest 332 = .ok (.getfield 26, 3) := by decide +kernel
theorem dX7_digest_335 : decode cX7_digest 335 = .ok (.aload_n 0, 1) := by decide +kernel
theorem dX7_digest_336 : decode cX7_digest 336 = .ok (.iload_n 3, 1) := by decide +kernel
theorem dX7_digest_337 : decode cX7_digest 337 = .ok (.iload 4, 2) := by decide +kernel
theorem dX7_digest_339 : decode cX7_digest 339 = .ok (.invokevirtual 201, 3) := by decide +kernel
theorem dX7_digest_342 : decode cX7_digest 342 = .ok (.iaload, 1) := by decide +kernel
theorem dX7_digest_343 : decode cX7_digest 343 = .ok (.if_icmp .ge 57, 3) := by decide +kernel
theorem dX7_digest_346 : decode cX7_digest 346 = .ok (.iload_n 3, 1) := by decide +kernel
theorem dX7_digest_347 : decode cX7_digest 347 = .ok (.bipush 80, 2) := by decide +kernel
theorem dX7_digest_349 : decode cX7_digest 349 = .ok (.imul, 1) := by decide +kernel
theorem dX7_digest_350 : decode cX7_digest 350 = .ok (.aload_n 0, 1) := by decide +kernel
theorem dX7_digest_351 : decode cX7_digest 351 = .ok (.aload_n 0, 1) := by decide +kernel
theorem dX7_digest_352 : decode cX7_digest 352 = .ok (.iload_n 3, 1) := by decide +kernel
theorem dX7_digest_353 : decode cX7_digest 353 = .ok (.iload 4, 2) := by decide +kernel
theorem dX7_digest_355 : decode cX7_digest 355 = .ok (.invokevirtual 201, 3) := by decide +kernel
theorem dX7_digest_358 : decode cX7_digest 358 = .ok (.iload 6, 2) := by decide +kernel
theorem dX7_digest_360 : decode cX7_digest 360 = .ok (.invokevirtual 113, 3) := by decide +kernel
theorem dX7_digest_363 : decode cX7_digest 363 = .ok (.iadd, 1) := by decide +kernel
theorem dX7_digest_364 : decode cX7_digest 364 = .ok (.istore 7, 2) := by decide +kernel
theorem dX7_digest_366 : decode cX7_digest 366 = .ok (.lload_n 1, 1) := by decide +kernel
theorem dX7_digest_367 : decode cX7_digest 367 = .ok (.ldc2_w 251, 3) := by decide +kernel
theorem dX7_digest_370 : decode cX7_digest 370 = .ok (.lmul, 1) := by decide +kernel
theorem dX7_digest_371 : decode cX7_digest 371 = .ok (.aload_n 0, 1) := by decide +kernel
theorem dX7_digest_372 : decode cX7_digest 372 = .ok (.getfield 81, 3) := by decide +kernel
theorem dX7_digest_375 : decode cX7_digest 375 = .ok (.iload 7, 2) := by decide +kernel
theorem dX7_digest_377 : decode cX7_digest 377 = .ok (.iaload, 1) := by decide +kernel
theorem dX7_digest_378 : decode cX7_digest 378 = .ok (.i2l, 1) := by decide +kernel
theorem dX7_digest_379 : decode cX7_digest 379 = .ok (.ladd, 1) := by decide +kernel
theorem dX7_digest_380 : decode cX7_digest 380 = .ok (.ldc2_w 251, 3) := by decide +kernel
theorem dX7_digest_383 : decode cX7_digest 383 = .ok (.lmul, 1) := by decide +kernel
theorem dX7_digest_384 : decode cX7_digest 384 = .ok (.aload_n 0, 1) := by decide +kernel
theorem dX7_digest_385 : decode cX7_digest 385 = .ok (.getfield 84, 3) := by decide +kernel
theorem dX7_digest_388 : decode cX7_digest 388 = .ok (.iload 7, 2) := by decide +kernel
theorem dX7_digest_390 : decode cX7_digest 390 = .ok (.iaload, 1) := by decide +kernel
theorem dX7_digest_391 : decode cX7_digest 391 = .ok (.i2l, 1) := by decide +kernel
theorem dX7_digest_392 : decode cX7_digest 392 = .ok (.ladd, 1) := by decide +kernel
theorem dX7_digest_393 : decode cX7_digest 393 = .ok (.lstore_n 1, 1) := by decide +kernel
theorem dX7_digest_394 : decode cX7_digest 394 = .ok (.iinc 6 1, 3) := by decide +kernel
theorem dX7_digest_397 : decode cX7_digest 397 = .ok (.goto (-68), 3) := by decide +kernel
theorem dX7_digest_400 : decode cX7_digest 400 = .ok (.iinc 4 1, 3) := by decide +kernel
theorem dX7_digest_403 : decode cX7_digest 403 = .ok (.goto (-155), 3) := by decide +kernel
theorem dX7_digest_406 : decode cX7_digest 406 = .ok (.iinc 3 1, 3) := by decide +kernel
theorem dX7_digest_409 : decode cX7_digest 409 = .ok (.goto (-197), 3) := by decide +kernel
theorem dX7_digest_412 : decode cX7_digest 412 = .ok (.iconst 0, 1) := by decide +kernel
theorem dX7_digest_413 : decode cX7_digest 413 = .ok (.istore_n 3, 1) := by decide +kernel
theorem dX7_digest_414 : decode cX7_digest 414 = .ok (.iload_n 3, 1) := by decide +kernel
theorem dX7_digest_415 : decode cX7_digest 415 = .ok (.aload_n 0, 1) := by decide +kernel
theorem dX7_digest_416 : decode cX7_digest 416 = .ok (.getfield 107, 3) := by decide +kernel
theorem dX7_digest_419 : decode cX7_digest 419 = .ok (.if_icmp .ge 40, 3) := by decide +kernel
theorem dX7_digest_422 : decode cX7_digest 422 = .ok (.iconst 0, 1) := by decide +kernel
theorem dX7_digest_423 : decode cX7_digest 423 = .ok (.istore 4, 2) := by decide +kernel
theorem dX7_digest_425 : decode cX7_digest 425 = .ok (.iload 4, 2) := by decide +kernel
theorem dX7_digest_427 : decode cX7_digest 427 = .ok (.bipush 6, 2) := by decide +kernel
theorem dX7_digest_429 : decode cX7_digest 429 = .ok (.if_icmp .ge 24, 3) := by decide +kernel
theorem dX7_digest_432 : decode cX7_digest 432 = .ok (.lload_n 1, 1) := by decide +kernel
theorem dX7_digest_433 : decode cX7_digest 433 = .ok (.ldc2_w 251, 3) := by decide +kernel
theorem dX7_digest_436 : decode cX7_digest 436 = .ok (.lmul, 1) := by decide +kernel
theorem dX7_digest_437 : decode cX7_digest 437 = .ok (.aload_n 0, 1) := by decide +kernel
theorem dX7_digest_438 : decode cX7_digest 438 = .ok (.iload_n 3, 1) := by decide +kernel
theorem dX7_digest_439 : decode cX7_digest 439 = .ok (.iload 4, 2) := by decide +kernel
theorem dX7_digest_441 : decode cX7_digest 441 = .ok (.invokevirtual 240, 3) := by decide +kernel
theorem dX7_digest_444 : decode cX7_digest 444 = .ok (.i2l, 1) := by decide +kernel
theorem dX7_digest_445 : decode cX7_digest 445 = .ok (.ladd, 1) := by decide +kernel
theorem dX7_digest_446 : decode cX7_digest 446 = .ok (.lstore_n 1, 1) := by decide +kernel
theorem dX7_digest_447 : decode cX7_digest 447 = .ok (.iinc 4 1, 3) := by decide +kernel
theorem dX7_digest_450 : decode cX7_digest 450 = .ok (.goto (-25), 3) := by decide +kernel
theorem dX7_digest_453 : decode cX7_digest 453 = .ok (.iinc 3 1, 3) := by decide +kernel
theorem dX7_digest_456 : decode cX7_digest 456 = .ok (.goto (-42), 3) := by decide +kernel
theorem dX7_digest_459 : decode cX7_digest 459 = .ok (.iconst 0, 1) := by decide +kernel
theorem dX7_digest_460 : decode cX7_digest 460 = .ok (.istore_n 3, 1) := by decide +kernel
theorem dX7_digest_461 : decode cX7_digest 461 = .ok (.iload_n 3, 1) := by decide +kernel
theorem dX7_digest_462 : decode cX7_digest 462 = .ok (.iconst 5, 1) := by decide +kernel
theorem dX7_digest_463 : decode cX7_digest 463 = .ok (.aload_n 0, 1) := by decide +kernel
theorem dX7_digest_464 : decode cX7_digest 464 = .ok (.getfield 207, 3) := by decide +kernel
theorem dX7_digest_467 : decode cX7_digest 467 = .ok (.imul, 1) := by decide +kernel
theorem dX7_digest_468 : decode cX7_digest 468 = .ok (.if_icmp .ge 23, 3) := by decide +kernel
theorem dX7_digest_471 : decode cX7_digest 471 = .ok (.lload_n 1, 1) := by decide +kernel
theorem dX7_digest_472 : decode cX7_digest 472 = .ok (.ldc2_w 251, 3) := by decide +kernel
theorem dX7_digest_475 : decode cX7_digest 475 = .ok (.lmul, 1) := by decide +kernel
theorem dX7_digest_476 : decode cX7_digest 476 = .ok (.aload_n 0, 1) := by decide +kernel
theorem dX7_digest_477 : decode cX7_digest 477 = .ok (.getfield 90, 3) := by decide +kernel
theorem dX7_digest_480 : decode cX7_digest 480 = .ok (.iload_n 3, 1) := by decide +kernel
theorem dX7_digest_481 : decode cX7_digest 481 = .ok (.iaload, 1) := by decide +kernel
theorem dX7_digest_482 : decode cX7_digest 482 = .ok (.i2l, 1) := by decide +kernel
theorem dX7_digest_483 : decode cX7_digest 483 = .ok (.ladd, 1) := by decide +kernel
theorem dX7_digest_484 : decode cX7_digest 484 = .ok (.lstore_n 1, 1) := by decide +kernel
theorem dX7_digest_485 : decode cX7_digest 485 = .ok (.iinc 3 1, 3) := by decide +kernel
theorem dX7_digest_488 : decode cX7_digest 488 = .ok (.goto (-27), 3) := by decide +kernel
theorem dX7_digest_491 : decode cX7_digest 491 = .ok (.lload_n 1, 1) := by decide +kernel
theorem dX7_digest_492 : decode cX7_digest 492 = .ok (.lreturn, 1) := by decide +kernel
