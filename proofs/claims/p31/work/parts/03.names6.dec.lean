theorem dL_hands_1100 : decode cL_hands 1100 = .ok (.aload_n 0, 1) := by decide +kernel
theorem dL_hands_1101 : decode cL_hands 1101 = .ok (.iload 29, 2) := by decide +kernel
theorem dL_hands_1103 : decode cL_hands 1103 = .ok (.iconst 2, 1) := by decide +kernel
theorem dL_hands_1104 : decode cL_hands 1104 = .ok (.iload_n 2, 1) := by decide +kernel
theorem dL_hands_1105 : decode cL_hands 1105 = .ok (.invokestatic 210, 3) := by decide +kernel
theorem dL_hands_1108 : decode cL_hands 1108 = .ok (.aload_n 0, 1) := by decide +kernel
theorem dL_hands_1109 : decode cL_hands 1109 = .ok (.iload 5, 2) := by decide +kernel
theorem dL_hands_1111 : decode cL_hands 1111 = .ok (.iconst 2, 1) := by decide +kernel
theorem dL_hands_1112 : decode cL_hands 1112 = .ok (.iload_n 2, 1) := by decide +kernel
theorem dL_hands_1113 : decode cL_hands 1113 = .ok (.invokestatic 210, 3) := by decide +kernel
theorem dL_hands_1116 : decode cL_hands 1116 = .ok (.if_icmp .lt 29, 3) := by decide +kernel
theorem dL_hands_1119 : decode cL_hands 1119 = .ok (.aload_n 0, 1) := by decide +kernel
theorem dL_hands_1120 : decode cL_hands 1120 = .ok (.iload 29, 2) := by decide +kernel
theorem dL_hands_1122 : decode cL_hands 1122 = .ok (.iconst 2, 1) := by decide +kernel
theorem dL_hands_1123 : decode cL_hands 1123 = .ok (.iload_n 2, 1) := by decide +kernel
theorem dL_hands_1124 : decode cL_hands 1124 = .ok (.invokestatic 210, 3) := by decide +kernel
theorem dL_hands_1127 : decode cL_hands 1127 = .ok (.aload_n 0, 1) := by decide +kernel
theorem dL_hands_1128 : decode cL_hands 1128 = .ok (.iload 5, 2) := by decide +kernel
theorem dL_hands_1130 : decode cL_hands 1130 = .ok (.iconst 2, 1) := by decide +kernel
theorem dL_hands_1131 : decode cL_hands 1131 = .ok (.iload_n 2, 1) := by decide +kernel
theorem dL_hands_1132 : decode cL_hands 1132 = .ok (.invokestatic 210, 3) := by decide +kernel
theorem dL_hands_1135 : decode cL_hands 1135 = .ok (.if_icmp .ne 14, 3) := by decide +kernel
theorem dL_hands_1138 : decode cL_hands 1138 = .ok (.iload 29, 2) := by decide +kernel
theorem dL_hands_1140 : decode cL_hands 1140 = .ok (.iload 5, 2) := by decide +kernel
theorem dL_hands_1142 : decode cL_hands 1142 = .ok (.if_icmp .gt 7, 3) := by decide +kernel
theorem dL_hands_1145 : decode cL_hands 1145 = .ok (.iconst 1, 1) := by decide +kernel
theorem dL_hands_1146 : decode cL_hands 1146 = .ok (.goto 4, 3) := by decide +kernel
theorem dL_hands_1149 : decode cL_hands 1149 = .ok (.iconst 0, 1) := by decide +kernel
theorem dL_hands_1150 : decode cL_hands 1150 = .ok (.istore 11, 2) := by decide +kernel
theorem dL_hands_1152 : decode cL_hands 1152 = .ok (.iload 11, 2) := by decide +kernel
theorem dL_hands_1154 : decode cL_hands 1154 = .ok (.ifCond .eq 26, 3) := by decide +kernel
theorem dL_hands_1157 : decode cL_hands 1157 = .ok (.aload_n 0, 1) := by decide +kernel
theorem dL_hands_1158 : decode cL_hands 1158 = .ok (.iconst 0, 1) := by decide +kernel
theorem dL_hands_1159 : decode cL_hands 1159 = .ok (.invokestatic 142, 3) := by decide +kernel
theorem dL_hands_1162 : decode cL_hands 1162 = .ok (.iload_n 2, 1) := by decide +kernel
theorem dL_hands_1163 : decode cL_hands 1163 = .ok (.if_icmp .ne 17, 3) := by decide +kernel
theorem dL_hands_1166 : decode cL_hands 1166 = .ok (.aload_n 0, 1) := by decide +kernel
theorem dL_hands_1167 : decode cL_hands 1167 = .ok (.invokestatic 139, 3) := by decide +kernel
theorem dL_hands_1170 : decode cL_hands 1170 = .ok (.sipush (-1003), 3) := by decide +kernel
theorem dL_hands_1173 : decode cL_hands 1173 = .ok (.if_icmp .ne 7, 3) := by decide +kernel
theorem dL_hands_1176 : decode cL_hands 1176 = .ok (.iconst 1, 1) := by decide +kernel
theorem dL_hands_1177 : decode cL_hands 1177 = .ok (.goto 4, 3) := by decide +kernel
theorem dL_hands_1180 : decode cL_hands 1180 = .ok (.iconst 0, 1) := by decide +kernel
theorem dL_hands_1181 : decode cL_hands 1181 = .ok (.ireturn, 1) := by decide +kernel
theorem dL_after_0 : decode cL_after 0 = .ok (.aload_n 0, 1) := by decide +kernel
theorem dL_after_1 : decode cL_after 1 = .ok (.iload_n 1, 1) := by decide +kernel
theorem dL_after_2 : decode cL_after 2 = .ok (.iconst 0, 1) := by decide +kernel
theorem dL_after_3 : decode cL_after 3 = .ok (.invokestatic 135, 3) := by decide +kernel
theorem dL_after_6 : decode cL_after 6 = .ok (.aload_n 0, 1) := by decide +kernel
theorem dL_after_7 : decode cL_after 7 = .ok (.iload_n 1, 1) := by decide +kernel
theorem dL_after_8 : decode cL_after 8 = .ok (.iconst 4, 1) := by decide +kernel
theorem dL_after_9 : decode cL_after 9 = .ok (.invokestatic 135, 3) := by decide +kernel
theorem dL_after_12 : decode cL_after 12 = .ok (.isub, 1) := by decide +kernel
theorem dL_after_13 : decode cL_after 13 = .ok (.istore 4, 2) := by decide +kernel
theorem dL_after_15 : decode cL_after 15 = .ok (.iload 4, 2) := by decide +kernel
theorem dL_after_17 : decode cL_after 17 = .ok (.aload_n 0, 1) := by decide +kernel
theorem dL_after_18 : decode cL_after 18 = .ok (.iconst 4, 1) := by decide +kernel
theorem dL_after_19 : decode cL_after 19 = .ok (.invokestatic 129, 3) := by decide +kernel
theorem dL_after_22 : decode cL_after 22 = .ok (.if_icmp .ge 8, 3) := by decide +kernel
theorem dL_after_25 : decode cL_after 25 = .ok (.iload 4, 2) := by decide +kernel
theorem dL_after_27 : decode cL_after 27 = .ok (.goto 8, 3) := by decide +kernel
theorem dL_after_30 : decode cL_after 30 = .ok (.aload_n 0, 1) := by decide +kernel
theorem dL_after_31 : decode cL_after 31 = .ok (.iconst 4, 1) := by decide +kernel
theorem dL_after_32 : decode cL_after 32 = .ok (.invokestatic 129, 3) := by decide +kernel
theorem dL_after_35 : decode cL_after 35 = .ok (.istore 5, 2) := by decide +kernel
theorem dL_after_37 : decode cL_after 37 = .ok (.iload 5, 2) := by decide +kernel
theorem dL_after_39 : decode cL_after 39 = .ok (.ifCond .ne 7, 3) := by decide +kernel
theorem dL_after_42 : decode cL_after 42 = .ok (.iconst 0, 1) := by decide +kernel
theorem dL_after_43 : decode cL_after 43 = .ok (.goto 10, 3) := by decide +kernel
theorem dL_after_46 : decode cL_after 46 = .ok (.aload_n 0, 1) := by decide +kernel
theorem dL_after_47 : decode cL_after 47 = .ok (.iload_n 1, 1) := by decide +kernel
theorem dL_after_48 : decode cL_after 48 = .ok (.iload 5, 2) := by decide +kernel
theorem dL_after_50 : decode cL_after 50 = .ok (.invokestatic 151, 3) := by decide +kernel
theorem dL_after_53 : decode cL_after 53 = .ok (.istore 6, 2) := by decide +kernel
theorem dL_after_55 : decode cL_after 55 = .ok (.aload_n 0, 1) := by decide +kernel
theorem dL_after_56 : decode cL_after 56 = .ok (.iload_n 1, 1) := by decide +kernel
theorem dL_after_57 : decode cL_after 57 = .ok (.invokestatic 154, 3) := by decide +kernel
theorem dL_after_60 : decode cL_after 60 = .ok (.istore 7, 2) := by decide +kernel
theorem dL_after_62 : decode cL_after 62 = .ok (.aload_n 0, 1) := by decide +kernel
theorem dL_after_63 : decode cL_after 63 = .ok (.bipush 60, 2) := by decide +kernel
theorem dL_after_65 : decode cL_after 65 = .ok (.iload_n 2, 1) := by decide +kernel
theorem dL_after_66 : decode cL_after 66 = .ok (.invokestatic 181, 3) := by decide +kernel
theorem dL_after_69 : decode cL_after 69 = .ok (.istore 8, 2) := by decide +kernel
theorem dL_after_71 : decode cL_after 71 = .ok (.iload 6, 2) := by decide +kernel
theorem dL_after_73 : decode cL_after 73 = .ok (.ifCond .lt 22, 3) := by decide +kernel
theorem dL_after_76 : decode cL_after 76 = .ok (.iload 7, 2) := by decide +kernel
theorem dL_after_78 : decode cL_after 78 = .ok (.ifCond .le 17, 3) := by decide +kernel
theorem dL_after_81 : decode cL_after 81 = .ok (.aload_n 0, 1) := by decide +kernel
theorem dL_after_82 : decode cL_after 82 = .ok (.iconst 0, 1) := by decide +kernel
theorem dL_after_83 : decode cL_after 83 = .ok (.invokestatic 142, 3) := by decide +kernel
theorem dL_after_86 : decode cL_after 86 = .ok (.iload_n 3, 1) := by decide +kernel
theorem dL_after_87 : decode cL_after 87 = .ok (.if_icmp .ne 8, 3) := by decide +kernel
theorem dL_after_90 : decode cL_after 90 = .ok (.iload 8, 2) := by decide +kernel
theorem dL_after_92 : decode cL_after 92 = .ok (.goto 4, 3) := by decide +kernel
theorem dL_after_95 : decode cL_after 95 = .ok (.iconst (-1), 1) := by decide +kernel
theorem dL_after_96 : decode cL_after 96 = .ok (.ireturn, 1) := by decide +kernel
theorem dL_scripts_0 : decode cL_scripts 0 = .ok (.aload_n 0, 1) := by decide +kernel
theorem dL_scripts_1 : decode cL_scripts 1 = .ok (.iconst 0, 1) := by decide +kernel
theorem dL_scripts_2 : decode cL_scripts 2 = .ok (.invokestatic 129, 3) := by decide +kernel
theorem dL_scripts_5 : decode cL_scripts 5 = .ok (.istore_n 2, 1) := by decide +kernel
theorem dL_scripts_6 : decode cL_scripts 6 = .ok (.aload_n 0, 1) := by decide +kernel
theorem dL_scripts_7 : decode cL_scripts 7 = .ok (.iconst 1, 1) := by decide +kernel
theorem dL_scripts_8 : decode cL_scripts 8 = .ok (.invokestatic 129, 3) := by decide +kernel
theorem dL_scripts_11 : decode cL_scripts 11 = .ok (.istore_n 3, 1) := by decide +kernel
theorem dL_scripts_12 : decode cL_scripts 12 = .ok (.iload_n 1, 1) := by decide +kernel
theorem dL_scripts_13 : decode cL_scripts 13 = .ok (.iload_n 3, 1) := by decide +kernel
theorem dL_scripts_14 : decode cL_scripts 14 = .ok (.irem, 1) := by decide +kernel
theorem dL_scripts_15 : decode cL_scripts 15 = .ok (.istore 4, 2) := by decide +kernel
theorem dL_scripts_17 : decode cL_scripts 17 = .ok (.aload_n 0, 1) := by decide +kernel
theorem dL_scripts_18 : decode cL_scripts 18 = .ok (.iload 4, 2) := by decide +kernel
theorem dL_scripts_20 : decode cL_scripts 20 = .ok (.iconst 5, 1) := by decide +kernel
theorem dL_scripts_21 : decode cL_scripts 21 = .ok (.invokestatic 135, 3) := by decide +kernel
theorem dL_scripts_24 : decode cL_scripts 24 = .ok (.istore 5, 2) := by decide +kernel
theorem dL_scripts_26 : decode cL_scripts 26 = .ok (.aload_n 0, 1) := by decide +kernel
theorem dL_scripts_27 : decode cL_scripts 27 = .ok (.bipush 6, 2) := by decide +kernel
theorem dL_scripts_29 : decode cL_scripts 29 = .ok (.invokestatic 129, 3) := by decide +kernel
theorem dL_scripts_32 : decode cL_scripts 32 = .ok (.istore 6, 2) := by decide +kernel
theorem dL_scripts_34 : decode cL_scripts 34 = .ok (.aload_n 0, 1) := by decide +kernel
theorem dL_scripts_35 : decode cL_scripts 35 = .ok (.bipush 7, 2) := by decide +kernel
theorem dL_scripts_37 : decode cL_scripts 37 = .ok (.invokestatic 129, 3) := by decide +kernel
theorem dL_scripts_40 : decode cL_scripts 40 = .ok (.istore 7, 2) := by decide +kernel
theorem dL_scripts_42 : decode cL_scripts 42 = .ok (.aload_n 0, 1) := by decide +kernel
theorem dL_scripts_43 : decode cL_scripts 43 = .ok (.bipush 9, 2) := by decide +kernel
theorem dL_scripts_45 : decode cL_scripts 45 = .ok (.invokestatic 129, 3) := by decide +kernel
theorem dL_scripts_48 : decode cL_scripts 48 = .ok (.istore 8, 2) := by decide +kernel
theorem dL_scripts_50 : decode cL_scripts 50 = .ok (.aload_n 0, 1) := by decide +kernel
theorem dL_scripts_51 : decode cL_scripts 51 = .ok (.iload_n 1, 1) := by decide +kernel
theorem dL_scripts_52 : decode cL_scripts 52 = .ok (.i2l, 1) := by decide +kernel
theorem dL_scripts_53 : decode cL_scripts 53 = .ok (.ldc2_w 214, 3) := by decide +kernel
theorem dL_scripts_56 : decode cL_scripts 56 = .ok (.lmul, 1) := by decide +kernel
theorem dL_scripts_57 : decode cL_scripts 57 = .ok (.bipush 20, 2) := by decide +kernel
theorem dL_scripts_59 : decode cL_scripts 59 = .ok (.invokestatic 196, 3) := by decide +kernel
theorem dL_scripts_62 : decode cL_scripts 62 = .ok (.istore 9, 2) := by decide +kernel
theorem dL_scripts_64 : decode cL_scripts 64 = .ok (.aload_n 0, 1) := by decide +kernel
theorem dL_scripts_65 : decode cL_scripts 65 = .ok (.iconst 1, 1) := by decide +kernel
theorem dL_scripts_66 : decode cL_scripts 66 = .ok (.ldc2_w 216, 3) := by decide +kernel
theorem dL_scripts_69 : decode cL_scripts 69 = .ok (.ldc2_w 218, 3) := by decide +kernel
theorem dL_scripts_72 : decode cL_scripts 72 = .ok (.iload 6, 2) := by decide +kernel
theorem dL_scripts_74 : decode cL_scripts 74 = .ok (.i2l, 1) := by decide +kernel
theorem dL_scripts_75 : decode cL_scripts 75 = .ok (.lmul, 1) := by decide +kernel
theorem dL_scripts_76 : decode cL_scripts 76 = .ok (.ladd, 1) := by decide +kernel
theorem dL_scripts_77 : decode cL_scripts 77 = .ok (.iload 7, 2) := by decide +kernel
theorem dL_scripts_79 : decode cL_scripts 79 = .ok (.i2l, 1) := by decide +kernel
theorem dL_scripts_80 : decode cL_scripts 80 = .ok (.ladd, 1) := by decide +kernel
theorem dL_scripts_81 : decode cL_scripts 81 = .ok (.invokestatic 190, 3) := by decide +kernel
theorem dL_scripts_84 : decode cL_scripts 84 = .ok (.bipush (-9), 2) := by decide +kernel
theorem dL_scripts_86 : decode cL_scripts 86 = .ok (.if_icmp .ne 194, 3) := by decide +kernel
theorem dL_scripts_89 : decode cL_scripts 89 = .ok (.aload_n 0, 1) := by decide +kernel
theorem dL_scripts_90 : decode cL_scripts 90 = .ok (.iconst 1, 1) := by decide +kernel
theorem dL_scripts_91 : decode cL_scripts 91 = .ok (.ldc2_w 220, 3) := by decide +kernel
theorem dL_scripts_94 : decode cL_scripts 94 = .ok (.ldc2_w 218, 3) := by decide +kernel
theorem dL_scripts_97 : decode cL_scripts 97 = .ok (.iload 6, 2) := by decide +kernel
theorem dL_scripts_99 : decode cL_scripts 99 = .ok (.i2l, 1) := by decide +kernel
theorem dL_scripts_100 : decode cL_scripts 100 = .ok (.lmul, 1) := by decide +kernel
theorem dL_scripts_101 : decode cL_scripts 101 = .ok (.ladd, 1) := by decide +kernel
theorem dL_scripts_102 : decode cL_scripts 102 = .ok (.iload 7, 2) := by decide +kernel
theorem dL_scripts_104 : decode cL_scripts 104 = .ok (.i2l, 1) := by decide +kernel
theorem dL_scripts_105 : decode cL_scripts 105 = .ok (.ladd, 1) := by decide +kernel
theorem dL_scripts_106 : decode cL_scripts 106 = .ok (.invokestatic 190, 3) := by decide +kernel
theorem dL_scripts_109 : decode cL_scripts 109 = .ok (.ifCond .ne 171, 3) := by decide +kernel
theorem dL_scripts_112 : decode cL_scripts 112 = .ok (.aload_n 0, 1) := by decide +kernel
theorem dL_scripts_113 : decode cL_scripts 113 = .ok (.iconst 1, 1) := by decide +kernel
theorem dL_scripts_114 : decode cL_scripts 114 = .ok (.ldc2_w 222, 3) := by decide +kernel
theorem dL_scripts_117 : decode cL_scripts 117 = .ok (.ldc2_w 218, 3) := by decide +kernel
theorem dL_scripts_120 : decode cL_scripts 120 = .ok (.iload 4, 2) := by decide +kernel
theorem dL_scripts_122 : decode cL_scripts 122 = .ok (.i2l, 1) := by decide +kernel
theorem dL_scripts_123 : decode cL_scripts 123 = .ok (.lmul, 1) := by decide +kernel
theorem dL_scripts_124 : decode cL_scripts 124 = .ok (.ladd, 1) := by decide +kernel
theorem dL_scripts_125 : decode cL_scripts 125 = .ok (.iload 5, 2) := by decide +kernel
theorem dL_scripts_127 : decode cL_scripts 127 = .ok (.i2l, 1) := by decide +kernel
theorem dL_scripts_128 : decode cL_scripts 128 = .ok (.ladd, 1) := by decide +kernel
theorem dL_scripts_129 : decode cL_scripts 129 = .ok (.invokestatic 190, 3) := by decide +kernel
theorem dL_scripts_132 : decode cL_scripts 132 = .ok (.bipush (-9), 2) := by decide +kernel
theorem dL_scripts_134 : decode cL_scripts 134 = .ok (.if_icmp .ne 146, 3) := by decide +kernel
theorem dL_scripts_137 : decode cL_scripts 137 = .ok (.aload_n 0, 1) := by decide +kernel
theorem dL_scripts_138 : decode cL_scripts 138 = .ok (.iconst 1, 1) := by decide +kernel
theorem dL_scripts_139 : decode cL_scripts 139 = .ok (.ldc2_w 224, 3) := by decide +kernel
theorem dL_scripts_142 : decode cL_scripts 142 = .ok (.ldc2_w 218, 3) := by decide +kernel
theorem dL_scripts_145 : decode cL_scripts 145 = .ok (.iload 4, 2) := by decide +kernel
theorem dL_scripts_147 : decode cL_scripts 147 = .ok (.i2l, 1) := by decide +kernel
theorem dL_scripts_148 : decode cL_scripts 148 = .ok (.lmul, 1) := by decide +kernel
theorem dL_scripts_149 : decode cL_scripts 149 = .ok (.ladd, 1) := by decide +kernel
theorem dL_scripts_150 : decode cL_scripts 150 = .ok (.invokestatic 190, 3) := by decide +kernel
theorem dL_scripts_153 : decode cL_scripts 153 = .ok (.ifCond .ne 127, 3) := by decide +kernel
theorem dL_scripts_156 : decode cL_scripts 156 = .ok (.aload_n 0, 1) := by decide +kernel
theorem dL_scripts_157 : decode cL_scripts 157 = .ok (.iconst 1, 1) := by decide +kernel
theorem dL_scripts_158 : decode cL_scripts 158 = .ok (.ldc2_w 226, 3) := by decide +kernel
theorem dL_scripts_161 : decode cL_scripts 161 = .ok (.iload 8, 2) := by decide +kernel
theorem dL_scripts_163 : decode cL_scripts 163 = .ok (.i2l, 1) := by decide +kernel
theorem dL_scripts_164 : decode cL_scripts 164 = .ok (.ladd, 1) := by decide +kernel
theorem dL_scripts_165 : decode cL_scripts 165 = .ok (.invokestatic 190, 3) := by decide +kernel
theorem dL_scripts_168 : decode cL_scripts 168 = .ok (.bipush (-9), 2) := by decide +kernel
theorem dL_scripts_170 : decode cL_scripts 170 = .ok (.if_icmp .ne 110, 3) := by decide +kernel
theorem dL_scripts_173 : decode cL_scripts 173 = .ok (.aload_n 0, 1) := by decide +kernel
theorem dL_scripts_174 : decode cL_scripts 174 = .ok (.iconst 1, 1) := by decide +kernel
theorem dL_scripts_175 : decode cL_scripts 175 = .ok (.ldc2_w 228, 3) := by decide +kernel
theorem dL_scripts_178 : decode cL_scripts 178 = .ok (.invokestatic 190, 3) := by decide +kernel
theorem dL_scripts_181 : decode cL_scripts 181 = .ok (.ifCond .ne 99, 3) := by decide +kernel
theorem dL_scripts_184 : decode cL_scripts 184 = .ok (.aload_n 0, 1) := by decide +kernel
theorem dL_scripts_185 : decode cL_scripts 185 = .ok (.iconst 1, 1) := by decide +kernel
theorem dL_scripts_186 : decode cL_scripts 186 = .ok (.ldc2_w 230, 3) := by decide +kernel
theorem dL_scripts_189 : decode cL_scripts 189 = .ok (.ldc2_w 218, 3) := by decide +kernel
theorem dL_scripts_192 : decode cL_scripts 192 = .ok (.iload 4, 2) := by decide +kernel
theorem dL_scripts_194 : decode cL_scripts 194 = .ok (.i2l, 1) := by decide +kernel
theorem dL_scripts_195 : decode cL_scripts 195 = .ok (.lmul, 1) := by decide +kernel
theorem dL_scripts_196 : decode cL_scripts 196 = .ok (.ladd, 1) := by decide +kernel
theorem dL_scripts_197 : decode cL_scripts 197 = .ok (.invokestatic 190, 3) := by decide +kernel
theorem dL_scripts_200 : decode cL_scripts 200 = .ok (.iload 5, 2) := by decide +kernel
theorem dL_scripts_202 : decode cL_scripts 202 = .ok (.ifCond .ne 14, 3) := by decide +kernel
theorem dL_scripts_205 : decode cL_scripts 205 = .ok (.iload 6, 2) := by decide +kernel
theorem dL_scripts_207 : decode cL_scripts 207 = .ok (.iload_n 2, 1) := by decide +kernel
theorem dL_scripts_208 : decode cL_scripts 208 = .ok (.if_icmp .ge 8, 3) := by decide +kernel
theorem dL_scripts_211 : decode cL_scripts 211 = .ok (.bipush (-9), 2) := by decide +kernel
theorem dL_scripts_213 : decode cL_scripts 213 = .ok (.goto 4, 3) := by decide +kernel
theorem dL_scripts_216 : decode cL_scripts 216 = .ok (.iconst 0, 1) := by decide +kernel
theorem dL_scripts_217 : decode cL_scripts 217 = .ok (.if_icmp .ne 63, 3) := by decide +kernel
theorem dL_scripts_220 : decode cL_scripts 220 = .ok (.aload_n 0, 1) := by decide +kernel
theorem dL_scripts_221 : decode cL_scripts 221 = .ok (.iconst 1, 1) := by decide +kernel
theorem dL_scripts_222 : decode cL_scripts 222 = .ok (.ldc2_w 232, 3) := by decide +kernel
theorem dL_scripts_225 : decode cL_scripts 225 = .ok (.ldc2_w 218, 3) := by decide +kernel
theorem dL_scripts_228 : decode cL_scripts 228 = .ok (.iload 4, 2) := by decide +kernel
theorem dL_scripts_230 : decode cL_scripts 230 = .ok (.i2l, 1) := by decide +kernel
theorem dL_scripts_231 : decode cL_scripts 231 = .ok (.lmul, 1) := by decide +kernel
theorem dL_scripts_232 : decode cL_scripts 232 = .ok (.ladd, 1) := by decide +kernel
theorem dL_scripts_233 : decode cL_scripts 233 = .ok (.invokestatic 190, 3) := by decide +kernel
theorem dL_scripts_236 : decode cL_scripts 236 = .ok (.iload 5, 2) := by decide +kernel
theorem dL_scripts_238 : decode cL_scripts 238 = .ok (.iconst 2, 1) := by decide +kernel
theorem dL_scripts_239 : decode cL_scripts 239 = .ok (.if_icmp .eq 9, 3) := by decide +kernel
theorem dL_scripts_242 : decode cL_scripts 242 = .ok (.iload 5, 2) := by decide +kernel
theorem dL_scripts_244 : decode cL_scripts 244 = .ok (.iconst 3, 1) := by decide +kernel
theorem dL_scripts_245 : decode cL_scripts 245 = .ok (.if_icmp .ne 8, 3) := by decide +kernel
theorem dL_scripts_248 : decode cL_scripts 248 = .ok (.bipush (-9), 2) := by decide +kernel
theorem dL_scripts_250 : decode cL_scripts 250 = .ok (.goto 4, 3) := by decide +kernel
theorem dL_scripts_253 : decode cL_scripts 253 = .ok (.iconst 0, 1) := by decide +kernel
theorem dL_scripts_254 : decode cL_scripts 254 = .ok (.if_icmp .ne 26, 3) := by decide +kernel
theorem dL_scripts_257 : decode cL_scripts 257 = .ok (.aload_n 0, 1) := by decide +kernel
theorem dL_scripts_258 : decode cL_scripts 258 = .ok (.iconst 1, 1) := by decide +kernel
theorem dL_scripts_259 : decode cL_scripts 259 = .ok (.ldc2_w 234, 3) := by decide +kernel
theorem dL_scripts_262 : decode cL_scripts 262 = .ok (.ldc2_w 218, 3) := by decide +kernel
theorem dL_scripts_265 : decode cL_scripts 265 = .ok (.iload 4, 2) := by decide +kernel
theorem dL_scripts_267 : decode cL_scripts 267 = .ok (.i2l, 1) := by decide +kernel
theorem dL_scripts_268 : decode cL_scripts 268 = .ok (.lmul, 1) := by decide +kernel
theorem dL_scripts_269 : decode cL_scripts 269 = .ok (.ladd, 1) := by decide +kernel
theorem dL_scripts_270 : decode cL_scripts 270 = .ok (.invokestatic 190, 3) := by decide +kernel
theorem dL_scripts_273 : decode cL_scripts 273 = .ok (.ifCond .ne 7, 3) := by decide +kernel
theorem dL_scripts_276 : decode cL_scripts 276 = .ok (.iconst 1, 1) := by decide +kernel
theorem dL_scripts_277 : decode cL_scripts 277 = .ok (.goto 4, 3) := by decide +kernel
theorem dL_scripts_280 : decode cL_scripts 280 = .ok (.iconst 0, 1) := by decide +kernel
theorem dL_scripts_281 : decode cL_scripts 281 = .ok (.istore 10, 2) := by decide +kernel
theorem dL_scripts_283 : decode cL_scripts 283 = .ok (.iload 10, 2) := by decide +kernel
theorem dL_scripts_285 : decode cL_scripts 285 = .ok (.ifCond .eq 182, 3) := by decide +kernel
theorem dL_scripts_288 : decode cL_scripts 288 = .ok (.aload_n 0, 1) := by decide +kernel
theorem dL_scripts_289 : decode cL_scripts 289 = .ok (.iconst 1, 1) := by decide +kernel
theorem dL_scripts_290 : decode cL_scripts 290 = .ok (.ldc2_w 236, 3) := by decide +kernel
theorem dL_scripts_293 : decode cL_scripts 293 = .ok (.invokestatic 190, 3) := by decide +kernel
theorem dL_scripts_296 : decode cL_scripts 296 = .ok (.ifCond .ne 171, 3) := by decide +kernel
theorem dL_scripts_299 : decode cL_scripts 299 = .ok (.aload_n 0, 1) := by decide +kernel
theorem dL_scripts_300 : decode cL_scripts 300 = .ok (.iconst 1, 1) := by decide +kernel
theorem dL_scripts_301 : decode cL_scripts 301 = .ok (.ldc2_w 238, 3) := by decide +kernel
theorem dL_scripts_304 : decode cL_scripts 304 = .ok (.invokestatic 190, 3) := by decide +kernel
theorem dL_scripts_307 : decode cL_scripts 307 = .ok (.ifCond .ne 160, 3) := by decide +kernel
theorem dL_scripts_310 : decode cL_scripts 310 = .ok (.aload_n 0, 1) := by decide +kernel
theorem dL_scripts_311 : decode cL_scripts 311 = .ok (.iconst 1, 1) := by decide +kernel
theorem dL_scripts_312 : decode cL_scripts 312 = .ok (.ldc2_w 230, 3) := by decide +kernel
theorem dL_scripts_315 : decode cL_scripts 315 = .ok (.ldc2_w 218, 3) := by decide +kernel
theorem dL_scripts_318 : decode cL_scripts 318 = .ok (.iload_n 3, 1) := by decide +kernel
theorem dL_scripts_319 : decode cL_scripts 319 = .ok (.i2l, 1) := by decide +kernel
theorem dL_scripts_320 : decode cL_scripts 320 = .ok (.lmul, 1) := by decide +kernel
theorem dL_scripts_321 : decode cL_scripts 321 = .ok (.ladd, 1) := by decide +kernel
theorem dL_scripts_322 : decode cL_scripts 322 = .ok (.invokestatic 190, 3) := by decide +kernel
theorem dL_scripts_325 : decode cL_scripts 325 = .ok (.ifCond .ne 142, 3) := by decide +kernel
theorem dL_scripts_328 : decode cL_scripts 328 = .ok (.aload_n 0, 1) := by decide +kernel
theorem dL_scripts_329 : decode cL_scripts 329 = .ok (.iconst 1, 1) := by decide +kernel
theorem dL_scripts_330 : decode cL_scripts 330 = .ok (.ldc2_w 240, 3) := by decide +kernel
theorem dL_scripts_333 : decode cL_scripts 333 = .ok (.invokestatic 190, 3) := by decide +kernel
theorem dL_scripts_336 : decode cL_scripts 336 = .ok (.ifCond .ne 131, 3) := by decide +kernel
theorem dL_scripts_339 : decode cL_scripts 339 = .ok (.aload_n 0, 1) := by decide +kernel
theorem dL_scripts_340 : decode cL_scripts 340 = .ok (.iconst 1, 1) := by decide +kernel
theorem dL_scripts_341 : decode cL_scripts 341 = .ok (.ldc2_w 242, 3) := by decide +kernel
theorem dL_scripts_344 : decode cL_scripts 344 = .ok (.invokestatic 190, 3) := by decide +kernel
theorem dL_scripts_347 : decode cL_scripts 347 = .ok (.ifCond .ne 120, 3) := by decide +kernel
theorem dL_scripts_350 : decode cL_scripts 350 = .ok (.aload_n 0, 1) := by decide +kernel
theorem dL_scripts_351 : decode cL_scripts 351 = .ok (.iconst 1, 1) := by decide +kernel
theorem dL_scripts_352 : decode cL_scripts 352 = .ok (.ldc2_w 244, 3) := by decide +kernel
theorem dL_scripts_355 : decode cL_scripts 355 = .ok (.ldc2_w 218, 3) := by decide +kernel
theorem dL_scripts_358 : decode cL_scripts 358 = .ok (.iload_n 2, 1) := by decide +kernel
theorem dL_scripts_359 : decode cL_scripts 359 = .ok (.i2l, 1) := by decide +kernel
theorem dL_scripts_360 : decode cL_scripts 360 = .ok (.lmul, 1) := by decide +kernel
theorem dL_scripts_361 : decode cL_scripts 361 = .ok (.ladd, 1) := by decide +kernel
theorem dL_scripts_362 : decode cL_scripts 362 = .ok (.invokestatic 190, 3) := by decide +kernel
theorem dL_scripts_365 : decode cL_scripts 365 = .ok (.ifCond .ne 102, 3) := by decide +kernel
theorem dL_scripts_368 : decode cL_scripts 368 = .ok (.aload_n 0, 1) := by decide +kernel
theorem dL_scripts_369 : decode cL_scripts 369 = .ok (.iconst 1, 1) := by decide +kernel
theorem dL_scripts_370 : decode cL_scripts 370 = .ok (.ldc2_w 246, 3) := by decide +kernel
theorem dL_scripts_373 : decode cL_scripts 373 = .ok (.invokestatic 190, 3) := by decide +kernel
theorem dL_scripts_376 : decode cL_scripts 376 = .ok (.ifCond .ne 91, 3) := by decide +kernel
theorem dL_scripts_379 : decode cL_scripts 379 = .ok (.aload_n 0, 1) := by decide +kernel
theorem dL_scripts_380 : decode cL_scripts 380 = .ok (.iconst 1, 1) := by decide +kernel
theorem dL_scripts_381 : decode cL_scripts 381 = .ok (.ldc2_w 248, 3) := by decide +kernel
theorem dL_scripts_384 : decode cL_scripts 384 = .ok (.invokestatic 190, 3) := by decide +kernel
theorem dL_scripts_387 : decode cL_scripts 387 = .ok (.bipush (-9), 2) := by decide +kernel
theorem dL_scripts_389 : decode cL_scripts 389 = .ok (.if_icmp .ne 78, 3) := by decide +kernel
theorem dL_scripts_392 : decode cL_scripts 392 = .ok (.aload_n 0, 1) := by decide +kernel
theorem dL_scripts_393 : decode cL_scripts 393 = .ok (.iconst 1, 1) := by decide +kernel
theorem dL_scripts_394 : decode cL_scripts 394 = .ok (.ldc2_w 250, 3) := by decide +kernel
theorem dL_scripts_397 : decode cL_scripts 397 = .ok (.invokestatic 190, 3) := by decide +kernel
theorem dL_scripts_400 : decode cL_scripts 400 = .ok (.ifCond .ne 67, 3) := by decide +kernel
theorem dL_scripts_403 : decode cL_scripts 403 = .ok (.aload_n 0, 1) := by decide +kernel
theorem dL_scripts_404 : decode cL_scripts 404 = .ok (.iconst 1, 1) := by decide +kernel
theorem dL_scripts_405 : decode cL_scripts 405 = .ok (.lconst 0, 1) := by decide +kernel
theorem dL_scripts_406 : decode cL_scripts 406 = .ok (.invokestatic 190, 3) := by decide +kernel
theorem dL_scripts_409 : decode cL_scripts 409 = .ok (.ifCond .ne 58, 3) := by decide +kernel
theorem dL_scripts_412 : decode cL_scripts 412 = .ok (.iload 9, 2) := by decide +kernel
theorem dL_scripts_414 : decode cL_scripts 414 = .ok (.aload_n 0, 1) := by decide +kernel
theorem dL_scripts_415 : decode cL_scripts 415 = .ok (.iconst 5, 1) := by decide +kernel
theorem dL_scripts_416 : decode cL_scripts 416 = .ok (.invokestatic 129, 3) := by decide +kernel
theorem dL_scripts_419 : decode cL_scripts 419 = .ok (.bipush 20, 2) := by decide +kernel
theorem dL_scripts_421 : decode cL_scripts 421 = .ok (.iadd, 1) := by decide +kernel
theorem dL_scripts_422 : decode cL_scripts 422 = .ok (.if_icmp .lt 45, 3) := by decide +kernel
theorem dL_scripts_425 : decode cL_scripts 425 = .ok (.iload 9, 2) := by decide +kernel
theorem dL_scripts_427 : decode cL_scripts 427 = .ok (.sipush 1000, 3) := by decide +kernel
theorem dL_scripts_430 : decode cL_scripts 430 = .ok (.irem, 1) := by decide +kernel
theorem dL_scripts_431 : decode cL_scripts 431 = .ok (.aload_n 0, 1) := by decide +kernel
theorem dL_scripts_432 : decode cL_scripts 432 = .ok (.iconst 5, 1) := by decide +kernel
theorem dL_scripts_433 : decode cL_scripts 433 = .ok (.invokestatic 129, 3) := by decide +kernel
theorem dL_scripts_436 : decode cL_scripts 436 = .ok (.bipush 20, 2) := by decide +kernel
theorem dL_scripts_438 : decode cL_scripts 438 = .ok (.iadd, 1) := by decide +kernel
theorem dL_scripts_439 : decode cL_scripts 439 = .ok (.sipush 1000, 3) := by decide +kernel
theorem dL_scripts_442 : decode cL_scripts 442 = .ok (.irem, 1) := by decide +kernel
theorem dL_scripts_443 : decode cL_scripts 443 = .ok (.if_icmp .ne 24, 3) := by decide +kernel
theorem dL_scripts_446 : decode cL_scripts 446 = .ok (.iload 9, 2) := by decide +kernel
theorem dL_scripts_448 : decode cL_scripts 448 = .ok (.aload_n 0, 1) := by decide +kernel
theorem dL_scripts_449 : decode cL_scripts 449 = .ok (.iload_n 1, 1) := by decide +kernel
theorem dL_scripts_450 : decode cL_scripts 450 = .ok (.i2l, 1) := by decide +kernel
theorem dL_scripts_451 : decode cL_scripts 451 = .ok (.ldc2_w 214, 3) := by decide +kernel
theorem dL_scripts_454 : decode cL_scripts 454 = .ok (.lmul, 1) := by decide +kernel
theorem dL_scripts_455 : decode cL_scripts 455 = .ok (.bipush 20, 2) := by decide +kernel
theorem dL_scripts_457 : decode cL_scripts 457 = .ok (.invokestatic 196, 3) := by decide +kernel
theorem dL_scripts_460 : decode cL_scripts 460 = .ok (.if_icmp .ne 7, 3) := by decide +kernel
theorem dL_scripts_463 : decode cL_scripts 463 = .ok (.iconst 1, 1) := by decide +kernel
theorem dL_scripts_464 : decode cL_scripts 464 = .ok (.goto 4, 3) := by decide +kernel
theorem dL_scripts_467 : decode cL_scripts 467 = .ok (.iconst 0, 1) := by decide +kernel
theorem dL_scripts_468 : decode cL_scripts 468 = .ok (.ireturn, 1) := by decide +kernel
theorem dL_act_0 : decode cL_act 0 = .ok (.iload_n 2, 1) := by decide +kernel
theorem dL_act_1 : decode cL_act 1 = .ok (.aload_n 0, 1) := by decide +kernel
theorem dL_act_2 : decode cL_act 2 = .ok (.iconst 1, 1) := by decide +kernel
theorem dL_act_3 : decode cL_act 3 = .ok (.invokestatic 129, 3) := by decide +kernel
theorem dL_act_6 : decode cL_act 6 = .ok (.irem, 1) := by decide +kernel
theorem dL_act_7 : decode cL_act 7 = .ok (.istore_n 3, 1) := by decide +kernel
theorem dL_act_8 : decode cL_act 8 = .ok (.iload_n 1, 1) := by decide +kernel
theorem dL_act_9 : decode cL_act 9 = .ok (.bipush 16, 2) := by decide +kernel
theorem dL_act_11 : decode cL_act 11 = .ok (.irem, 1) := by decide +kernel
theorem dL_act_12 : decode cL_act 12 = .ok (.tableswitch 168 0 14 #[76, 76, 91, 91, 91, 97, 103, 124, 136, 152, 152, 152, 152, 152, 163], 76) := by decide +kernel
theorem dL_act_88 : decode cL_act 88 = .ok (.aload_n 0, 1) := by decide +kernel
theorem dL_act_89 : decode cL_act 89 = .ok (.iload_n 3, 1) := by decide +kernel
theorem dL_act_90 : decode cL_act 90 = .ok (.iconst 1, 1) := by decide +kernel
theorem dL_act_91 : decode cL_act 91 = .ok (.iload_n 2, 1) := by decide +kernel
theorem dL_act_92 : decode cL_act 92 = .ok (.iconst 4, 1) := by decide +kernel
theorem dL_act_93 : decode cL_act 93 = .ok (.idiv, 1) := by decide +kernel
theorem dL_act_94 : decode cL_act 94 = .ok (.sipush 140, 3) := by decide +kernel
theorem dL_act_97 : decode cL_act 97 = .ok (.irem, 1) := by decide +kernel
theorem dL_act_98 : decode cL_act 98 = .ok (.iadd, 1) := by decide +kernel
theorem dL_act_99 : decode cL_act 99 = .ok (.invokestatic 151, 3) := by decide +kernel
theorem dL_act_102 : decode cL_act 102 = .ok (.ireturn, 1) := by decide +kernel
theorem dL_act_103 : decode cL_act 103 = .ok (.aload_n 0, 1) := by decide +kernel
theorem dL_act_104 : decode cL_act 104 = .ok (.iload_n 3, 1) := by decide +kernel
theorem dL_act_105 : decode cL_act 105 = .ok (.invokestatic 154, 3) := by decide +kernel
theorem dL_act_108 : decode cL_act 108 = .ok (.ireturn, 1) := by decide +kernel
theorem dL_act_109 : decode cL_act 109 = .ok (.aload_n 0, 1) := by decide +kernel
theorem dL_act_110 : decode cL_act 110 = .ok (.iload_n 3, 1) := by decide +kernel
theorem dL_act_111 : decode cL_act 111 = .ok (.invokestatic 157, 3) := by decide +kernel
theorem dL_act_114 : decode cL_act 114 = .ok (.ireturn, 1) := by decide +kernel
theorem dL_act_115 : decode cL_act 115 = .ok (.aload_n 0, 1) := by decide +kernel
theorem dL_act_116 : decode cL_act 116 = .ok (.iload_n 2, 1) := by decide +kernel
theorem dL_act_117 : decode cL_act 117 = .ok (.aload_n 0, 1) := by decide +kernel
theorem dL_act_118 : decode cL_act 118 = .ok (.iconst 0, 1) := by decide +kernel
theorem dL_act_119 : decode cL_act 119 = .ok (.invokestatic 129, 3) := by decide +kernel
theorem dL_act_122 : decode cL_act 122 = .ok (.irem, 1) := by decide +kernel
theorem dL_act_123 : decode cL_act 123 = .ok (.iconst 1, 1) := by decide +kernel
theorem dL_act_124 : decode cL_act 124 = .ok (.iload_n 2, 1) := by decide +kernel
theorem dL_act_125 : decode cL_act 125 = .ok (.bipush 16, 2) := by decide +kernel
theorem dL_act_127 : decode cL_act 127 = .ok (.idiv, 1) := by decide +kernel
theorem dL_act_128 : decode cL_act 128 = .ok (.bipush 99, 2) := by decide +kernel
theorem dL_act_130 : decode cL_act 130 = .ok (.irem, 1) := by decide +kernel
theorem dL_act_131 : decode cL_act 131 = .ok (.iadd, 1) := by decide +kernel
theorem dL_act_132 : decode cL_act 132 = .ok (.invokestatic 160, 3) := by decide +kernel
theorem dL_act_135 : decode cL_act 135 = .ok (.ireturn, 1) := by decide +kernel
theorem dL_act_136 : decode cL_act 136 = .ok (.aload_n 0, 1) := by decide +kernel
theorem dL_act_137 : decode cL_act 137 = .ok (.iconst 1, 1) := by decide +kernel
theorem dL_act_138 : decode cL_act 138 = .ok (.iload_n 2, 1) := by decide +kernel
theorem dL_act_139 : decode cL_act 139 = .ok (.sipush 999, 3) := by decide +kernel
theorem dL_act_142 : decode cL_act 142 = .ok (.irem, 1) := by decide +kernel
theorem dL_act_143 : decode cL_act 143 = .ok (.iadd, 1) := by decide +kernel
theorem dL_act_144 : decode cL_act 144 = .ok (.invokestatic 163, 3) := by decide +kernel
theorem dL_act_147 : decode cL_act 147 = .ok (.ireturn, 1) := by decide +kernel
theorem dL_act_148 : decode cL_act 148 = .ok (.aload_n 0, 1) := by decide +kernel
theorem dL_act_149 : decode cL_act 149 = .ok (.iload_n 2, 1) := by decide +kernel
theorem dL_act_150 : decode cL_act 150 = .ok (.bipush 9, 2) := by decide +kernel
theorem dL_act_152 : decode cL_act 152 = .ok (.irem, 1) := by decide +kernel
theorem dL_act_153 : decode cL_act 153 = .ok (.iload_n 2, 1) := by decide +kernel
theorem dL_act_154 : decode cL_act 154 = .ok (.bipush 16, 2) := by decide +kernel
theorem dL_act_156 : decode cL_act 156 = .ok (.idiv, 1) := by decide +kernel
theorem dL_act_157 : decode cL_act 157 = .ok (.bipush 10, 2) := by decide +kernel
theorem dL_act_159 : decode cL_act 159 = .ok (.irem, 1) := by decide +kernel
theorem dL_act_160 : decode cL_act 160 = .ok (.invokestatic 166, 3) := by decide +kernel
theorem dL_act_163 : decode cL_act 163 = .ok (.ireturn, 1) := by decide +kernel
theorem dL_act_164 : decode cL_act 164 = .ok (.aload_n 0, 1) := by decide +kernel
theorem dL_act_165 : decode cL_act 165 = .ok (.iconst 1, 1) := by decide +kernel
theorem dL_act_166 : decode cL_act 166 = .ok (.iload_n 2, 1) := by decide +kernel
theorem dL_act_167 : decode cL_act 167 = .ok (.bipush 15, 2) := by decide +kernel
theorem dL_act_169 : decode cL_act 169 = .ok (.irem, 1) := by decide +kernel
theorem dL_act_170 : decode cL_act 170 = .ok (.iadd, 1) := by decide +kernel
theorem dL_act_171 : decode cL_act 171 = .ok (.invokestatic 169, 3) := by decide +kernel
theorem dL_act_174 : decode cL_act 174 = .ok (.ireturn, 1) := by decide +kernel
theorem dL_act_175 : decode cL_act 175 = .ok (.aload_n 0, 1) := by decide +kernel
theorem dL_act_176 : decode cL_act 176 = .ok (.invokestatic 139, 3) := by decide +kernel
theorem dL_act_179 : decode cL_act 179 = .ok (.ireturn, 1) := by decide +kernel
theorem dL_act_180 : decode cL_act 180 = .ok (.iload_n 2, 1) := by decide +kernel
theorem dL_act_181 : decode cL_act 181 = .ok (.iconst 2, 1) := by decide +kernel
theorem dL_act_182 : decode cL_act 182 = .ok (.irem, 1) := by decide +kernel
theorem dL_act_183 : decode cL_act 183 = .ok (.ifCond .ne 11, 3) := by decide +kernel
theorem dL_act_186 : decode cL_act 186 = .ok (.aload_n 0, 1) := by decide +kernel
theorem dL_act_187 : decode cL_act 187 = .ok (.iconst 1, 1) := by decide +kernel
theorem dL_act_188 : decode cL_act 188 = .ok (.invokestatic 200, 3) := by decide +kernel
theorem dL_act_191 : decode cL_act 191 = .ok (.goto 8, 3) := by decide +kernel
theorem dL_act_194 : decode cL_act 194 = .ok (.aload_n 0, 1) := by decide +kernel
theorem dL_act_195 : decode cL_act 195 = .ok (.iconst 1, 1) := by decide +kernel
theorem dL_act_196 : decode cL_act 196 = .ok (.invokestatic 142, 3) := by decide +kernel
theorem dL_act_199 : decode cL_act 199 = .ok (.ireturn, 1) := by decide +kernel
theorem dL_law_0 : decode cL_law 0 = .ok (.new 8, 3) := by decide +kernel
theorem dL_law_3 : decode cL_law 3 = .ok (.dup, 1) := by decide +kernel
theorem dL_law_4 : decode cL_law 4 = .ok (.invokespecial 252, 3) := by decide +kernel
theorem dL_law_7 : decode cL_law 7 = .ok (.astore_n 1, 1) := by decide +kernel
theorem dL_law_8 : decode cL_law 8 = .ok (.new 8, 3) := by decide +kernel
theorem dL_law_11 : decode cL_law 11 = .ok (.dup, 1) := by decide +kernel
theorem dL_law_12 : decode cL_law 12 = .ok (.invokespecial 252, 3) := by decide +kernel
theorem dL_law_15 : decode cL_law 15 = .ok (.astore_n 2, 1) := by decide +kernel
theorem dL_law_16 : decode cL_law 16 = .ok (.aload_n 1, 1) := by decide +kernel
theorem dL_law_17 : decode cL_law 17 = .ok (.invokevirtual 115, 3) := by decide +kernel
theorem dL_law_20 : decode cL_law 20 = .ok (.ifCond .ne 61, 3) := by decide +kernel
theorem dL_law_23 : decode cL_law 23 = .ok (.aload_n 1, 1) := by decide +kernel
theorem dL_law_24 : decode cL_law 24 = .ok (.iconst 4, 1) := by decide +kernel
theorem dL_law_25 : decode cL_law 25 = .ok (.invokestatic 129, 3) := by decide +kernel
theorem dL_law_28 : decode cL_law 28 = .ok (.sipush 200, 3) := by decide +kernel
theorem dL_law_31 : decode cL_law 31 = .ok (.if_icmp .ne 50, 3) := by decide +kernel
theorem dL_law_34 : decode cL_law 34 = .ok (.aload_n 1, 1) := by decide +kernel
theorem dL_law_35 : decode cL_law 35 = .ok (.iconst 0, 1) := by decide +kernel
theorem dL_law_36 : decode cL_law 36 = .ok (.iconst 4, 1) := by decide +kernel
theorem dL_law_37 : decode cL_law 37 = .ok (.invokestatic 145, 3) := by decide +kernel
theorem dL_law_40 : decode cL_law 40 = .ok (.bipush 50, 2) := by decide +kernel
theorem dL_law_42 : decode cL_law 42 = .ok (.if_icmp .ne 39, 3) := by decide +kernel
theorem dL_law_45 : decode cL_law 45 = .ok (.aload_n 1, 1) := by decide +kernel
theorem dL_law_46 : decode cL_law 46 = .ok (.invokestatic 139, 3) := by decide +kernel
theorem dL_law_49 : decode cL_law 49 = .ok (.sipush (-1003), 3) := by decide +kernel
theorem dL_law_52 : decode cL_law 52 = .ok (.if_icmp .ne 29, 3) := by decide +kernel
theorem dL_law_55 : decode cL_law 55 = .ok (.aload_n 2, 1) := by decide +kernel
theorem dL_law_56 : decode cL_law 56 = .ok (.invokestatic 253, 3) := by decide +kernel
theorem dL_law_59 : decode cL_law 59 = .ok (.ifCond .eq 22, 3) := by decide +kernel
theorem dL_law_62 : decode cL_law 62 = .ok (.aload_n 1, 1) := by decide +kernel
theorem dL_law_63 : decode cL_law 63 = .ok (.aload_n 2, 1) := by decide +kernel
theorem dL_law_64 : decode cL_law 64 = .ok (.invokestatic 256, 3) := by decide +kernel
theorem dL_law_67 : decode cL_law 67 = .ok (.ifCond .eq 14, 3) := by decide +kernel
theorem dL_law_70 : decode cL_law 70 = .ok (.aload_n 1, 1) := by decide +kernel
theorem dL_law_71 : decode cL_law 71 = .ok (.invokestatic 203, 3) := by decide +kernel
theorem dL_law_74 : decode cL_law 74 = .ok (.ifCond .eq 7, 3) := by decide +kernel
theorem dL_law_77 : decode cL_law 77 = .ok (.iconst 1, 1) := by decide +kernel
theorem dL_law_78 : decode cL_law 78 = .ok (.goto 4, 3) := by decide +kernel
theorem dL_law_81 : decode cL_law 81 = .ok (.iconst 0, 1) := by decide +kernel
theorem dL_law_82 : decode cL_law 82 = .ok (.istore_n 3, 1) := by decide +kernel
theorem dL_law_83 : decode cL_law 83 = .ok (.iconst 0, 1) := by decide +kernel
theorem dL_law_84 : decode cL_law 84 = .ok (.istore 4, 2) := by decide +kernel
theorem dL_law_86 : decode cL_law 86 = .ok (.iload 4, 2) := by decide +kernel
theorem dL_law_88 : decode cL_law 88 = .ok (.iconst 2, 1) := by decide +kernel
theorem dL_law_89 : decode cL_law 89 = .ok (.if_icmp .ge 280, 3) := by decide +kernel
theorem dL_law_92 : decode cL_law 92 = .ok (.iload_n 3, 1) := by decide +kernel
theorem dL_law_93 : decode cL_law 93 = .ok (.ifCond .eq 276, 3) := by decide +kernel
theorem dL_law_96 : decode cL_law 96 = .ok (.aload_n 1, 1) := by decide +kernel
theorem dL_law_97 : decode cL_law 97 = .ok (.aload_n 2, 1) := by decide +kernel
theorem dL_law_98 : decode cL_law 98 = .ok (.aload_n 0, 1) := by decide +kernel
theorem dL_law_99 : decode cL_law 99 = .ok (.bipush 40, 2) := by decide +kernel
theorem dL_law_101 : decode cL_law 101 = .ok (.iload 4, 2) := by decide +kernel
theorem dL_law_103 : decode cL_law 103 = .ok (.imul, 1) := by decide +kernel
theorem dL_law_104 : decode cL_law 104 = .ok (.invokestatic 260, 3) := by decide +kernel
theorem dL_law_107 : decode cL_law 107 = .ok (.ifCond .eq 29, 3) := by decide +kernel
theorem dL_law_110 : decode cL_law 110 = .ok (.aload_n 2, 1) := by decide +kernel
theorem dL_law_111 : decode cL_law 111 = .ok (.invokestatic 253, 3) := by decide +kernel
theorem dL_law_114 : decode cL_law 114 = .ok (.ifCond .eq 22, 3) := by decide +kernel
theorem dL_law_117 : decode cL_law 117 = .ok (.aload_n 1, 1) := by decide +kernel
theorem dL_law_118 : decode cL_law 118 = .ok (.aload_n 2, 1) := by decide +kernel
theorem dL_law_119 : decode cL_law 119 = .ok (.invokestatic 256, 3) := by decide +kernel
theorem dL_law_122 : decode cL_law 122 = .ok (.ifCond .eq 14, 3) := by decide +kernel
theorem dL_law_125 : decode cL_law 125 = .ok (.aload_n 1, 1) := by decide +kernel
theorem dL_law_126 : decode cL_law 126 = .ok (.invokestatic 203, 3) := by decide +kernel
theorem dL_law_129 : decode cL_law 129 = .ok (.ifCond .eq 7, 3) := by decide +kernel
theorem dL_law_132 : decode cL_law 132 = .ok (.iconst 1, 1) := by decide +kernel
theorem dL_law_133 : decode cL_law 133 = .ok (.goto 4, 3) := by decide +kernel
theorem dL_law_136 : decode cL_law 136 = .ok (.iconst 0, 1) := by decide +kernel
theorem dL_law_137 : decode cL_law 137 = .ok (.istore_n 3, 1) := by decide +kernel
theorem dL_law_138 : decode cL_law 138 = .ok (.iconst 0, 1) := by decide +kernel
theorem dL_law_139 : decode cL_law 139 = .ok (.istore 5, 2) := by decide +kernel
theorem dL_law_141 : decode cL_law 141 = .ok (.iload 5, 2) := by decide +kernel
theorem dL_law_143 : decode cL_law 143 = .ok (.bipush 12, 2) := by decide +kernel
theorem dL_law_145 : decode cL_law 145 = .ok (.if_icmp .ge 218, 3) := by decide +kernel
theorem dL_law_148 : decode cL_law 148 = .ok (.iload_n 3, 1) := by decide +kernel
theorem dL_law_149 : decode cL_law 149 = .ok (.ifCond .eq 214, 3) := by decide +kernel
theorem dL_law_152 : decode cL_law 152 = .ok (.aload_n 0, 1) := by decide +kernel
theorem dL_law_153 : decode cL_law 153 = .ok (.bipush 40, 2) := by decide +kernel
theorem dL_law_155 : decode cL_law 155 = .ok (.iload 4, 2) := by decide +kernel
theorem dL_law_157 : decode cL_law 157 = .ok (.imul, 1) := by decide +kernel
theorem dL_law_158 : decode cL_law 158 = .ok (.bipush 11, 2) := by decide +kernel
theorem dL_law_160 : decode cL_law 160 = .ok (.iadd, 1) := by decide +kernel
theorem dL_law_161 : decode cL_law 161 = .ok (.iconst 2, 1) := by decide +kernel
theorem dL_law_162 : decode cL_law 162 = .ok (.iload 5, 2) := by decide +kernel
theorem dL_law_164 : decode cL_law 164 = .ok (.imul, 1) := by decide +kernel
theorem dL_law_165 : decode cL_law 165 = .ok (.iadd, 1) := by decide +kernel
theorem dL_law_166 : decode cL_law 166 = .ok (.invokestatic 107, 3) := by decide +kernel
theorem dL_law_169 : decode cL_law 169 = .ok (.istore 6, 2) := by decide +kernel
theorem dL_law_171 : decode cL_law 171 = .ok (.aload_n 0, 1) := by decide +kernel
theorem dL_law_172 : decode cL_law 172 = .ok (.bipush 40, 2) := by decide +kernel
theorem dL_law_174 : decode cL_law 174 = .ok (.iload 4, 2) := by decide +kernel
theorem dL_law_176 : decode cL_law 176 = .ok (.imul, 1) := by decide +kernel
theorem dL_law_177 : decode cL_law 177 = .ok (.bipush 12, 2) := by decide +kernel
theorem dL_law_179 : decode cL_law 179 = .ok (.iadd, 1) := by decide +kernel
theorem dL_law_180 : decode cL_law 180 = .ok (.iconst 2, 1) := by decide +kernel
theorem dL_law_181 : decode cL_law 181 = .ok (.iload 5, 2) := by decide +kernel
theorem dL_law_183 : decode cL_law 183 = .ok (.imul, 1) := by decide +kernel
theorem dL_law_184 : decode cL_law 184 = .ok (.iadd, 1) := by decide +kernel
theorem dL_law_185 : decode cL_law 185 = .ok (.invokestatic 107, 3) := by decide +kernel
theorem dL_law_188 : decode cL_law 188 = .ok (.istore 7, 2) := by decide +kernel
theorem dL_law_190 : decode cL_law 190 = .ok (.aload_n 1, 1) := by decide +kernel
theorem dL_law_191 : decode cL_law 191 = .ok (.iload 6, 2) := by decide +kernel
theorem dL_law_193 : decode cL_law 193 = .ok (.iload 7, 2) := by decide +kernel
theorem dL_law_195 : decode cL_law 195 = .ok (.invokestatic 264, 3) := by decide +kernel
theorem dL_law_198 : decode cL_law 198 = .ok (.aload_n 2, 1) := by decide +kernel
theorem dL_law_199 : decode cL_law 199 = .ok (.iload 6, 2) := by decide +kernel
theorem dL_law_201 : decode cL_law 201 = .ok (.iload 7, 2) := by decide +kernel
theorem dL_law_203 : decode cL_law 203 = .ok (.invokestatic 264, 3) := by decide +kernel
theorem dL_law_206 : decode cL_law 206 = .ok (.if_icmp .ne 29, 3) := by decide +kernel
theorem dL_law_209 : decode cL_law 209 = .ok (.aload_n 2, 1) := by decide +kernel
theorem dL_law_210 : decode cL_law 210 = .ok (.invokestatic 253, 3) := by decide +kernel
theorem dL_law_213 : decode cL_law 213 = .ok (.ifCond .eq 22, 3) := by decide +kernel
theorem dL_law_216 : decode cL_law 216 = .ok (.aload_n 1, 1) := by decide +kernel
theorem dL_law_217 : decode cL_law 217 = .ok (.aload_n 2, 1) := by decide +kernel
theorem dL_law_218 : decode cL_law 218 = .ok (.invokestatic 256, 3) := by decide +kernel
theorem dL_law_221 : decode cL_law 221 = .ok (.ifCond .eq 14, 3) := by decide +kernel
theorem dL_law_224 : decode cL_law 224 = .ok (.aload_n 1, 1) := by decide +kernel
theorem dL_law_225 : decode cL_law 225 = .ok (.invokestatic 203, 3) := by decide +kernel
theorem dL_law_228 : decode cL_law 228 = .ok (.ifCond .eq 7, 3) := by decide +kernel
theorem dL_law_231 : decode cL_law 231 = .ok (.iconst 1, 1) := by decide +kernel
theorem dL_law_232 : decode cL_law 232 = .ok (.goto 4, 3) := by decide +kernel
theorem dL_law_235 : decode cL_law 235 = .ok (.iconst 0, 1) := by decide +kernel
theorem dL_law_236 : decode cL_law 236 = .ok (.istore_n 3, 1) := by decide +kernel
theorem dL_law_237 : decode cL_law 237 = .ok (.iload 5, 2) := by decide +kernel
theorem dL_law_239 : decode cL_law 239 = .ok (.iconst 4, 1) := by decide +kernel
theorem dL_law_240 : decode cL_law 240 = .ok (.irem, 1) := by decide +kernel
theorem dL_law_241 : decode cL_law 241 = .ok (.iconst 3, 1) := by decide +kernel
theorem dL_law_242 : decode cL_law 242 = .ok (.if_icmp .ne 115, 3) := by decide +kernel
theorem dL_law_245 : decode cL_law 245 = .ok (.iload_n 3, 1) := by decide +kernel
theorem dL_law_246 : decode cL_law 246 = .ok (.ifCond .eq 111, 3) := by decide +kernel
theorem dL_law_249 : decode cL_law 249 = .ok (.aload_n 1, 1) := by decide +kernel
theorem dL_law_250 : decode cL_law 250 = .ok (.iconst 5, 1) := by decide +kernel
theorem dL_law_251 : decode cL_law 251 = .ok (.invokestatic 129, 3) := by decide +kernel
theorem dL_law_254 : decode cL_law 254 = .ok (.istore 8, 2) := by decide +kernel
theorem dL_law_256 : decode cL_law 256 = .ok (.aload_n 1, 1) := by decide +kernel
theorem dL_law_257 : decode cL_law 257 = .ok (.iload 6, 2) := by decide +kernel
theorem dL_law_259 : decode cL_law 259 = .ok (.invokestatic 267, 3) := by decide +kernel
theorem dL_law_262 : decode cL_law 262 = .ok (.ifCond .eq 93, 3) := by decide +kernel
theorem dL_law_265 : decode cL_law 265 = .ok (.aload_n 2, 1) := by decide +kernel
theorem dL_law_266 : decode cL_law 266 = .ok (.iconst 0, 1) := by decide +kernel
theorem dL_law_267 : decode cL_law 267 = .ok (.invokestatic 200, 3) := by decide +kernel
theorem dL_law_270 : decode cL_law 270 = .ok (.iload 8, 2) := by decide +kernel
theorem dL_law_272 : decode cL_law 272 = .ok (.if_icmp .ne 83, 3) := by decide +kernel
theorem dL_law_275 : decode cL_law 275 = .ok (.aload_n 1, 1) := by decide +kernel
theorem dL_law_276 : decode cL_law 276 = .ok (.iconst 0, 1) := by decide +kernel
theorem dL_law_277 : decode cL_law 277 = .ok (.invokestatic 200, 3) := by decide +kernel
theorem dL_law_280 : decode cL_law 280 = .ok (.iload 8, 2) := by decide +kernel
theorem dL_law_282 : decode cL_law 282 = .ok (.if_icmp .ne 73, 3) := by decide +kernel
theorem dL_law_285 : decode cL_law 285 = .ok (.aload_n 1, 1) := by decide +kernel
theorem dL_law_286 : decode cL_law 286 = .ok (.iconst 0, 1) := by decide +kernel
theorem dL_law_287 : decode cL_law 287 = .ok (.invokestatic 142, 3) := by decide +kernel
theorem dL_law_290 : decode cL_law 290 = .ok (.iload 8, 2) := by decide +kernel
theorem dL_law_292 : decode cL_law 292 = .ok (.if_icmp .ne 63, 3) := by decide +kernel
theorem dL_law_295 : decode cL_law 295 = .ok (.aload_n 1, 1) := by decide +kernel
theorem dL_law_296 : decode cL_law 296 = .ok (.iload 7, 2) := by decide +kernel
theorem dL_law_298 : decode cL_law 298 = .ok (.invokestatic 271, 3) := by decide +kernel
theorem dL_law_301 : decode cL_law 301 = .ok (.ifCond .eq 54, 3) := by decide +kernel
theorem dL_law_304 : decode cL_law 304 = .ok (.aload_n 1, 1) := by decide +kernel
theorem dL_law_305 : decode cL_law 305 = .ok (.iload 7, 2) := by decide +kernel
theorem dL_law_307 : decode cL_law 307 = .ok (.invokestatic 274, 3) := by decide +kernel
theorem dL_law_310 : decode cL_law 310 = .ok (.ifCond .eq 45, 3) := by decide +kernel
theorem dL_law_313 : decode cL_law 313 = .ok (.aload_n 1, 1) := by decide +kernel
theorem dL_law_314 : decode cL_law 314 = .ok (.iconst 0, 1) := by decide +kernel
theorem dL_law_315 : decode cL_law 315 = .ok (.invokestatic 142, 3) := by decide +kernel
theorem dL_law_318 : decode cL_law 318 = .ok (.iload 8, 2) := by decide +kernel
theorem dL_law_320 : decode cL_law 320 = .ok (.if_icmp .ne 35, 3) := by decide +kernel
theorem dL_law_323 : decode cL_law 323 = .ok (.aload_n 2, 1) := by decide +kernel
theorem dL_law_324 : decode cL_law 324 = .ok (.iconst 0, 1) := by decide +kernel
theorem dL_law_325 : decode cL_law 325 = .ok (.invokestatic 142, 3) := by decide +kernel
theorem dL_law_328 : decode cL_law 328 = .ok (.iload 8, 2) := by decide +kernel
theorem dL_law_330 : decode cL_law 330 = .ok (.if_icmp .ne 25, 3) := by decide +kernel
theorem dL_law_333 : decode cL_law 333 = .ok (.aload_n 1, 1) := by decide +kernel
theorem dL_law_334 : decode cL_law 334 = .ok (.invokestatic 139, 3) := by decide +kernel
theorem dL_law_337 : decode cL_law 337 = .ok (.sipush (-1003), 3) := by decide +kernel
theorem dL_law_340 : decode cL_law 340 = .ok (.if_icmp .ne 15, 3) := by decide +kernel
theorem dL_law_343 : decode cL_law 343 = .ok (.aload_n 1, 1) := by decide +kernel
theorem dL_law_344 : decode cL_law 344 = .ok (.aload_n 2, 1) := by decide +kernel
theorem dL_law_345 : decode cL_law 345 = .ok (.invokestatic 256, 3) := by decide +kernel
theorem dL_law_348 : decode cL_law 348 = .ok (.ifCond .eq 7, 3) := by decide +kernel
theorem dL_law_351 : decode cL_law 351 = .ok (.iconst 1, 1) := by decide +kernel
theorem dL_law_352 : decode cL_law 352 = .ok (.goto 4, 3) := by decide +kernel
theorem dL_law_355 : decode cL_law 355 = .ok (.iconst 0, 1) := by decide +kernel
theorem dL_law_356 : decode cL_law 356 = .ok (.istore_n 3, 1) := by decide +kernel
theorem dL_law_357 : decode cL_law 357 = .ok (.iinc 5 1, 3) := by decide +kernel
theorem dL_law_360 : decode cL_law 360 = .ok (.goto (-219), 3) := by decide +kernel
theorem dL_law_363 : decode cL_law 363 = .ok (.iinc 4 1, 3) := by decide +kernel
theorem dL_law_366 : decode cL_law 366 = .ok (.goto (-280), 3) := by decide +kernel
theorem dL_law_369 : decode cL_law 369 = .ok (.iload_n 3, 1) := by decide +kernel
theorem dL_law_370 : decode cL_law 370 = .ok (.ireturn, 1) := by decide +kernel
