theorem dX10_init_0 : decode cX10_init 0 = .ok (.aload_n 0, 1) := by decide +kernel
theorem dX10_init_1 : decode cX10_init 1 = .ok (.invokespecial 1, 3) := by decide +kernel
theorem dX10_init_4 : decode cX10_init 4 = .ok (.aload_n 0, 1) := by decide +kernel
theorem dX10_init_5 : decode cX10_init 5 = .ok (.new 7, 3) := by decide +kernel
theorem dX10_init_8 : decode cX10_init 8 = .ok (.dup, 1) := by decide +kernel
theorem dX10_init_9 : decode cX10_init 9 = .ok (.invokespecial 9, 3) := by decide +kernel
theorem dX10_init_12 : decode cX10_init 12 = .ok (.putfield 10, 3) := by decide +kernel
theorem dX10_init_15 : decode cX10_init 15 = .ok (.aload_n 0, 1) := by decide +kernel
theorem dX10_init_16 : decode cX10_init 16 = .ok (.new 16, 3) := by decide +kernel
theorem dX10_init_19 : decode cX10_init 19 = .ok (.dup, 1) := by decide +kernel
theorem dX10_init_20 : decode cX10_init 20 = .ok (.invokespecial 18, 3) := by decide +kernel
theorem dX10_init_23 : decode cX10_init 23 = .ok (.putfield 19, 3) := by decide +kernel
theorem dX10_init_26 : decode cX10_init 26 = .ok (.aload_n 0, 1) := by decide +kernel
theorem dX10_init_27 : decode cX10_init 27 = .ok (.new 16, 3) := by decide +kernel
theorem dX10_init_30 : decode cX10_init 30 = .ok (.dup, 1) := by decide +kernel
theorem dX10_init_31 : decode cX10_init 31 = .ok (.invokespecial 18, 3) := by decide +kernel
theorem dX10_init_34 : decode cX10_init 34 = .ok (.putfield 23, 3) := by decide +kernel
theorem dX10_init_37 : decode cX10_init 37 = .ok (.aload_n 0, 1) := by decide +kernel
theorem dX10_init_38 : decode cX10_init 38 = .ok (.new 26, 3) := by decide +kernel
theorem dX10_init_41 : decode cX10_init 41 = .ok (.dup, 1) := by decide +kernel
theorem dX10_init_42 : decode cX10_init 42 = .ok (.invokespecial 28, 3) := by decide +kernel
theorem dX10_init_45 : decode cX10_init 45 = .ok (.putfield 29, 3) := by decide +kernel
theorem dX10_init_48 : decode cX10_init 48 = .ok (.aload_n 0, 1) := by decide +kernel
theorem dX10_init_49 : decode cX10_init 49 = .ok (.iconst 2, 1) := by decide +kernel
theorem dX10_init_50 : decode cX10_init 50 = .ok (.anewarray 33, 3) := by decide +kernel
theorem dX10_init_53 : decode cX10_init 53 = .ok (.putfield 35, 3) := by decide +kernel
theorem dX10_init_56 : decode cX10_init 56 = .ok (.iconst 0, 1) := by decide +kernel
theorem dX10_init_57 : decode cX10_init 57 = .ok (.istore_n 1, 1) := by decide +kernel
theorem dX10_init_58 : decode cX10_init 58 = .ok (.iload_n 1, 1) := by decide +kernel
theorem dX10_init_59 : decode cX10_init 59 = .ok (.aload_n 0, 1) := by decide +kernel
theorem dX10_init_60 : decode cX10_init 60 = .ok (.getfield 35, 3) := by decide +kernel
theorem dX10_init_63 : decode cX10_init 63 = .ok (.arraylength, 1) := by decide +kernel
theorem dX10_init_64 : decode cX10_init 64 = .ok (.if_icmp .ge 22, 3) := by decide +kernel
theorem dX10_init_67 : decode cX10_init 67 = .ok (.aload_n 0, 1) := by decide +kernel
theorem dX10_init_68 : decode cX10_init 68 = .ok (.getfield 35, 3) := by decide +kernel
theorem dX10_init_71 : decode cX10_init 71 = .ok (.iload_n 1, 1) := by decide +kernel
theorem dX10_init_72 : decode cX10_init 72 = .ok (.new 33, 3) := by decide +kernel
theorem dX10_init_75 : decode cX10_init 75 = .ok (.dup, 1) := by decide +kernel
theorem dX10_init_76 : decode cX10_init 76 = .ok (.invokespecial 39, 3) := by decide +kernel
theorem dX10_init_79 : decode cX10_init 79 = .ok (.aastore, 1) := by decide +kernel
theorem dX10_init_80 : decode cX10_init 80 = .ok (.iinc 1 1, 3) := by decide +kernel
theorem dX10_init_83 : decode cX10_init 83 = .ok (.goto (-25), 3) := by decide +kernel
theorem dX10_init_86 : decode cX10_init 86 = .ok (.aload_n 0, 1) := by decide +kernel
theorem dX10_init_87 : decode cX10_init 87 = .ok (.getfield 19, 3) := by decide +kernel
theorem dX10_init_90 : decode cX10_init 90 = .ok (.iconst 1, 1) := by decide +kernel
theorem dX10_init_91 : decode cX10_init 91 = .ok (.iconst 2, 1) := by decide +kernel
theorem dX10_init_92 : decode cX10_init 92 = .ok (.sipush 200, 3) := by decide +kernel
theorem dX10_init_95 : decode cX10_init 95 = .ok (.invokevirtual 40, 3) := by decide +kernel
theorem dX10_init_98 : decode cX10_init 98 = .ok (.aload_n 0, 1) := by decide +kernel
theorem dX10_init_99 : decode cX10_init 99 = .ok (.getfield 19, 3) := by decide +kernel
theorem dX10_init_102 : decode cX10_init 102 = .ok (.bipush 50, 2) := by decide +kernel
theorem dX10_init_104 : decode cX10_init 104 = .ok (.iconst 0, 1) := by decide +kernel
theorem dX10_init_105 : decode cX10_init 105 = .ok (.bipush 99, 2) := by decide +kernel
theorem dX10_init_107 : decode cX10_init 107 = .ok (.iconst 5, 1) := by decide +kernel
theorem dX10_init_108 : decode cX10_init 108 = .ok (.invokevirtual 44, 3) := by decide +kernel
theorem dX10_init_111 : decode cX10_init 111 = .ok (.aload_n 0, 1) := by decide +kernel
theorem dX10_init_112 : decode cX10_init 112 = .ok (.getfield 19, 3) := by decide +kernel
theorem dX10_init_115 : decode cX10_init 115 = .ok (.bipush 100, 2) := by decide +kernel
theorem dX10_init_117 : decode cX10_init 117 = .ok (.bipush 10, 2) := by decide +kernel
theorem dX10_init_119 : decode cX10_init 119 = .ok (.iconst 5, 1) := by decide +kernel
theorem dX10_init_120 : decode cX10_init 120 = .ok (.bipush 20, 2) := by decide +kernel
theorem dX10_init_122 : decode cX10_init 122 = .ok (.invokevirtual 48, 3) := by decide +kernel
theorem dX10_init_125 : decode cX10_init 125 = .ok (.aload_n 0, 1) := by decide +kernel
theorem dX10_init_126 : decode cX10_init 126 = .ok (.getfield 19, 3) := by decide +kernel
theorem dX10_init_129 : decode cX10_init 129 = .ok (.getfield 51, 3) := by decide +kernel
theorem dX10_init_132 : decode cX10_init 132 = .ok (.iconst 3, 1) := by decide +kernel
theorem dX10_init_133 : decode cX10_init 133 = .ok (.invokevirtual 55, 3) := by decide +kernel
theorem dX10_init_136 : decode cX10_init 136 = .ok (.return_, 1) := by decide +kernel
theorem dX10_append_0 : decode cX10_append 0 = .ok (.iload_n 1, 1) := by decide +kernel
theorem dX10_append_1 : decode cX10_append 1 = .ok (.iconst 0, 1) := by decide +kernel
theorem dX10_append_2 : decode cX10_append 2 = .ok (.sipush 255, 3) := by decide +kernel
theorem dX10_append_5 : decode cX10_append 5 = .ok (.invokestatic 61, 3) := by decide +kernel
theorem dX10_append_8 : decode cX10_append 8 = .ok (.aload_n 0, 1) := by decide +kernel
theorem dX10_append_9 : decode cX10_append 9 = .ok (.getfield 10, 3) := by decide +kernel
theorem dX10_append_12 : decode cX10_append 12 = .ok (.invokevirtual 64, 3) := by decide +kernel
theorem dX10_append_15 : decode cX10_append 15 = .ok (.invokestatic 68, 3) := by decide +kernel
theorem dX10_append_18 : decode cX10_append 18 = .ok (.aload_n 0, 1) := by decide +kernel
theorem dX10_append_19 : decode cX10_append 19 = .ok (.getfield 10, 3) := by decide +kernel
theorem dX10_append_22 : decode cX10_append 22 = .ok (.iload_n 1, 1) := by decide +kernel
theorem dX10_append_23 : decode cX10_append 23 = .ok (.i2c, 1) := by decide +kernel
theorem dX10_append_24 : decode cX10_append 24 = .ok (.invokevirtual 72, 3) := by decide +kernel
theorem dX10_append_27 : decode cX10_append 27 = .ok (.ireturn, 1) := by decide +kernel
theorem dX10_clearText_0 : decode cX10_clearText 0 = .ok (.aload_n 0, 1) := by decide +kernel
theorem dX10_clearText_1 : decode cX10_clearText 1 = .ok (.getfield 10, 3) := by decide +kernel
theorem dX10_clearText_4 : decode cX10_clearText 4 = .ok (.invokevirtual 75, 3) := by decide +kernel
theorem dX10_clearText_7 : decode cX10_clearText 7 = .ok (.ireturn, 1) := by decide +kernel
theorem dX10_errorPosition_0 : decode cX10_errorPosition 0 = .ok (.aload_n 0, 1) := by decide +kernel
theorem dX10_errorPosition_1 : decode cX10_errorPosition 1 = .ok (.getfield 10, 3) := by decide +kernel
theorem dX10_errorPosition_4 : decode cX10_errorPosition 4 = .ok (.aload_n 0, 1) := by decide +kernel
theorem dX10_errorPosition_5 : decode cX10_errorPosition 5 = .ok (.getfield 23, 3) := by decide +kernel
theorem dX10_errorPosition_8 : decode cX10_errorPosition 8 = .ok (.invokevirtual 79, 3) := by decide +kernel
theorem dX10_errorPosition_11 : decode cX10_errorPosition 11 = .ok (.ireturn, 1) := by decide +kernel
theorem dX10_load_0 : decode cX10_load 0 = .ok (.aload_n 0, 1) := by decide +kernel
theorem dX10_load_1 : decode cX10_load 1 = .ok (.getfield 10, 3) := by decide +kernel
theorem dX10_load_4 : decode cX10_load 4 = .ok (.aload_n 0, 1) := by decide +kernel
theorem dX10_load_5 : decode cX10_load 5 = .ok (.getfield 23, 3) := by decide +kernel
theorem dX10_load_8 : decode cX10_load 8 = .ok (.invokevirtual 79, 3) := by decide +kernel
theorem dX10_load_11 : decode cX10_load 11 = .ok (.bipush (-9), 2) := by decide +kernel
theorem dX10_load_13 : decode cX10_load 13 = .ok (.if_icmp .ne 7, 3) := by decide +kernel
theorem dX10_load_16 : decode cX10_load 16 = .ok (.iconst 1, 1) := by decide +kernel
theorem dX10_load_17 : decode cX10_load 17 = .ok (.goto 4, 3) := by decide +kernel
theorem dX10_load_20 : decode cX10_load 20 = .ok (.iconst 0, 1) := by decide +kernel
theorem dX10_load_21 : decode cX10_load 21 = .ok (.invokestatic 68, 3) := by decide +kernel
theorem dX10_load_24 : decode cX10_load 24 = .ok (.aload_n 0, 1) := by decide +kernel
theorem dX10_load_25 : decode cX10_load 25 = .ok (.getfield 19, 3) := by decide +kernel
theorem dX10_load_28 : decode cX10_load 28 = .ok (.aload_n 0, 1) := by decide +kernel
theorem dX10_load_29 : decode cX10_load 29 = .ok (.getfield 23, 3) := by decide +kernel
theorem dX10_load_32 : decode cX10_load 32 = .ok (.invokevirtual 83, 3) := by decide +kernel
theorem dX10_load_35 : decode cX10_load 35 = .ok (.aload_n 0, 1) := by decide +kernel
theorem dX10_load_36 : decode cX10_load 36 = .ok (.getfield 29, 3) := by decide +kernel
theorem dX10_load_39 : decode cX10_load 39 = .ok (.invokevirtual 87, 3) := by decide +kernel
theorem dX10_load_42 : decode cX10_load 42 = .ok (.aload_n 0, 1) := by decide +kernel
theorem dX10_load_43 : decode cX10_load 43 = .ok (.getfield 35, 3) := by decide +kernel
theorem dX10_load_46 : decode cX10_load 46 = .ok (.astore_n 1, 1) := by decide +kernel
theorem dX10_load_47 : decode cX10_load 47 = .ok (.aload_n 1, 1) := by decide +kernel
theorem dX10_load_48 : decode cX10_load 48 = .ok (.arraylength, 1) := by decide +kernel
theorem dX10_load_49 : decode cX10_load 49 = .ok (.istore_n 2, 1) := by decide +kernel
theorem dX10_load_50 : decode cX10_load 50 = .ok (.iconst 0, 1) := by decide +kernel
theorem dX10_load_51 : decode cX10_load 51 = .ok (.istore_n 3, 1) := by decide +kernel
theorem dX10_load_52 : decode cX10_load 52 = .ok (.iload_n 3, 1) := by decide +kernel
theorem dX10_load_53 : decode cX10_load 53 = .ok (.iload_n 2, 1) := by decide +kernel
theorem dX10_load_54 : decode cX10_load 54 = .ok (.if_icmp .ge 20, 3) := by decide +kernel
theorem dX10_load_57 : decode cX10_load 57 = .ok (.aload_n 1, 1) := by decide +kernel
theorem dX10_load_58 : decode cX10_load 58 = .ok (.iload_n 3, 1) := by decide +kernel
theorem dX10_load_59 : decode cX10_load 59 = .ok (.aaload, 1) := by decide +kernel
theorem dX10_load_60 : decode cX10_load 60 = .ok (.astore 4, 2) := by decide +kernel
theorem dX10_load_62 : decode cX10_load 62 = .ok (.aload 4, 2) := by decide +kernel
theorem dX10_load_64 : decode cX10_load 64 = .ok (.iconst 0, 1) := by decide +kernel
theorem dX10_load_65 : decode cX10_load 65 = .ok (.putfield 89, 3) := by decide +kernel
theorem dX10_load_68 : decode cX10_load 68 = .ok (.iinc 3 1, 3) := by decide +kernel
theorem dX10_load_71 : decode cX10_load 71 = .ok (.goto (-19), 3) := by decide +kernel
theorem dX10_load_74 : decode cX10_load 74 = .ok (.aload_n 0, 1) := by decide +kernel
theorem dX10_load_75 : decode cX10_load 75 = .ok (.getfield 19, 3) := by decide +kernel
theorem dX10_load_78 : decode cX10_load 78 = .ok (.getfield 93, 3) := by decide +kernel
theorem dX10_load_81 : decode cX10_load 81 = .ok (.ireturn, 1) := by decide +kernel
theorem dX10_about_0 : decode cX10_about 0 = .ok (.aload_n 0, 1) := by decide +kernel
theorem dX10_about_1 : decode cX10_about 1 = .ok (.getfield 19, 3) := by decide +kernel
theorem dX10_about_4 : decode cX10_about 4 = .ok (.getfield 97, 3) := by decide +kernel
theorem dX10_about_7 : decode cX10_about 7 = .ok (.astore_n 2, 1) := by decide +kernel
theorem dX10_about_8 : decode cX10_about 8 = .ok (.iload_n 1, 1) := by decide +kernel
theorem dX10_about_9 : decode cX10_about 9 = .ok (.tableswitch 165 0 13 #[71, 79, 87, 92, 97, 105, 113, 121, 129, 137, 145, 150, 155, 160], 71) := by decide +kernel
theorem dX10_about_80 : decode cX10_about 80 = .ok (.aload_n 0, 1) := by decide +kernel
theorem dX10_about_81 : decode cX10_about 81 = .ok (.getfield 19, 3) := by decide +kernel
theorem dX10_about_84 : decode cX10_about 84 = .ok (.getfield 93, 3) := by decide +kernel
theorem dX10_about_87 : decode cX10_about 87 = .ok (.ireturn, 1) := by decide +kernel
theorem dX10_about_88 : decode cX10_about 88 = .ok (.aload_n 0, 1) := by decide +kernel
theorem dX10_about_89 : decode cX10_about 89 = .ok (.getfield 19, 3) := by decide +kernel
theorem dX10_about_92 : decode cX10_about 92 = .ok (.getfield 101, 3) := by decide +kernel
theorem dX10_about_95 : decode cX10_about 95 = .ok (.ireturn, 1) := by decide +kernel
theorem dX10_about_96 : decode cX10_about 96 = .ok (.aload_n 2, 1) := by decide +kernel
theorem dX10_about_97 : decode cX10_about 97 = .ok (.getfield 104, 3) := by decide +kernel
theorem dX10_about_100 : decode cX10_about 100 = .ok (.ireturn, 1) := by decide +kernel
theorem dX10_about_101 : decode cX10_about 101 = .ok (.aload_n 2, 1) := by decide +kernel
theorem dX10_about_102 : decode cX10_about 102 = .ok (.getfield 109, 3) := by decide +kernel
theorem dX10_about_105 : decode cX10_about 105 = .ok (.ireturn, 1) := by decide +kernel
theorem dX10_about_106 : decode cX10_about 106 = .ok (.aload_n 0, 1) := by decide +kernel
theorem dX10_about_107 : decode cX10_about 107 = .ok (.getfield 19, 3) := by decide +kernel
theorem dX10_about_110 : decode cX10_about 110 = .ok (.getfield 112, 3) := by decide +kernel
theorem dX10_about_113 : decode cX10_about 113 = .ok (.ireturn, 1) := by decide +kernel
theorem dX10_about_114 : decode cX10_about 114 = .ok (.aload_n 0, 1) := by decide +kernel
theorem dX10_about_115 : decode cX10_about 115 = .ok (.getfield 19, 3) := by decide +kernel
theorem dX10_about_118 : decode cX10_about 118 = .ok (.getfield 115, 3) := by decide +kernel
theorem dX10_about_121 : decode cX10_about 121 = .ok (.ireturn, 1) := by decide +kernel
theorem dX10_about_122 : decode cX10_about 122 = .ok (.aload_n 0, 1) := by decide +kernel
theorem dX10_about_123 : decode cX10_about 123 = .ok (.getfield 19, 3) := by decide +kernel
theorem dX10_about_126 : decode cX10_about 126 = .ok (.getfield 118, 3) := by decide +kernel
theorem dX10_about_129 : decode cX10_about 129 = .ok (.ireturn, 1) := by decide +kernel
theorem dX10_about_130 : decode cX10_about 130 = .ok (.aload_n 0, 1) := by decide +kernel
theorem dX10_about_131 : decode cX10_about 131 = .ok (.getfield 19, 3) := by decide +kernel
theorem dX10_about_134 : decode cX10_about 134 = .ok (.getfield 121, 3) := by decide +kernel
theorem dX10_about_137 : decode cX10_about 137 = .ok (.ireturn, 1) := by decide +kernel
theorem dX10_about_138 : decode cX10_about 138 = .ok (.aload_n 0, 1) := by decide +kernel
theorem dX10_about_139 : decode cX10_about 139 = .ok (.getfield 19, 3) := by decide +kernel
theorem dX10_about_142 : decode cX10_about 142 = .ok (.invokevirtual 124, 3) := by decide +kernel
theorem dX10_about_145 : decode cX10_about 145 = .ok (.ireturn, 1) := by decide +kernel
theorem dX10_about_146 : decode cX10_about 146 = .ok (.aload_n 0, 1) := by decide +kernel
theorem dX10_about_147 : decode cX10_about 147 = .ok (.getfield 19, 3) := by decide +kernel
theorem dX10_about_150 : decode cX10_about 150 = .ok (.getfield 127, 3) := by decide +kernel
theorem dX10_about_153 : decode cX10_about 153 = .ok (.ireturn, 1) := by decide +kernel
theorem dX10_about_154 : decode cX10_about 154 = .ok (.aload_n 2, 1) := by decide +kernel
theorem dX10_about_155 : decode cX10_about 155 = .ok (.invokevirtual 130, 3) := by decide +kernel
theorem dX10_about_158 : decode cX10_about 158 = .ok (.ireturn, 1) := by decide +kernel
theorem dX10_about_159 : decode cX10_about 159 = .ok (.aload_n 2, 1) := by decide +kernel
theorem dX10_about_160 : decode cX10_about 160 = .ok (.getfield 133, 3) := by decide +kernel
theorem dX10_about_163 : decode cX10_about 163 = .ok (.ireturn, 1) := by decide +kernel
theorem dX10_about_164 : decode cX10_about 164 = .ok (.aload_n 2, 1) := by decide +kernel
theorem dX10_about_165 : decode cX10_about 165 = .ok (.getfield 136, 3) := by decide +kernel
theorem dX10_about_168 : decode cX10_about 168 = .ok (.ireturn, 1) := by decide +kernel
theorem dX10_about_169 : decode cX10_about 169 = .ok (.aload_n 2, 1) := by decide +kernel
theorem dX10_about_170 : decode cX10_about 170 = .ok (.invokevirtual 139, 3) := by decide +kernel
theorem dX10_about_173 : decode cX10_about 173 = .ok (.ireturn, 1) := by decide +kernel
theorem dX10_about_174 : decode cX10_about 174 = .ok (.new 142, 3) := by decide +kernel
theorem dX10_about_177 : decode cX10_about 177 = .ok (.dup, 1) := by decide +kernel
theorem dX10_about_178 : decode cX10_about 178 = .ok (.ldc 144, 2) := by decide +kernel
theorem dX10_about_180 : decode cX10_about 180 = .ok (.invokespecial 146, 3) := by decide +kernel
theorem dX10_about_183 : decode cX10_about 183 = .ok (.athrow, 1) := by decide +kernel
theorem dX10_zone_0 : decode cX10_zone 0 = .ok (.aload_n 0, 1) := by decide +kernel
theorem dX10_zone_1 : decode cX10_zone 1 = .ok (.getfield 19, 3) := by decide +kernel
theorem dX10_zone_4 : decode cX10_zone 4 = .ok (.iload_n 1, 1) := by decide +kernel
theorem dX10_zone_5 : decode cX10_zone 5 = .ok (.invokestatic 149, 3) := by decide +kernel
theorem dX10_zone_8 : decode cX10_zone 8 = .ok (.astore_n 3, 1) := by decide +kernel
theorem dX10_zone_9 : decode cX10_zone 9 = .ok (.iload_n 2, 1) := by decide +kernel
theorem dX10_zone_10 : decode cX10_zone 10 = .ok (.tableswitch 64 0 4 #[34, 39, 44, 49, 54], 34) := by decide +kernel
theorem dX10_zone_44 : decode cX10_zone 44 = .ok (.aload_n 3, 1) := by decide +kernel
theorem dX10_zone_45 : decode cX10_zone 45 = .ok (.getfield 153, 3) := by decide +kernel
theorem dX10_zone_48 : decode cX10_zone 48 = .ok (.ireturn, 1) := by decide +kernel
theorem dX10_zone_49 : decode cX10_zone 49 = .ok (.aload_n 3, 1) := by decide +kernel
theorem dX10_zone_50 : decode cX10_zone 50 = .ok (.getfield 158, 3) := by decide +kernel
theorem dX10_zone_53 : decode cX10_zone 53 = .ok (.ireturn, 1) := by decide +kernel
theorem dX10_zone_54 : decode cX10_zone 54 = .ok (.aload_n 3, 1) := by decide +kernel
theorem dX10_zone_55 : decode cX10_zone 55 = .ok (.getfield 161, 3) := by decide +kernel
theorem dX10_zone_58 : decode cX10_zone 58 = .ok (.ireturn, 1) := by decide +kernel
theorem dX10_zone_59 : decode cX10_zone 59 = .ok (.aload_n 3, 1) := by decide +kernel
theorem dX10_zone_60 : decode cX10_zone 60 = .ok (.getfield 164, 3) := by decide +kernel
theorem dX10_zone_63 : decode cX10_zone 63 = .ok (.ireturn, 1) := by decide +kernel
theorem dX10_zone_64 : decode cX10_zone 64 = .ok (.aload_n 0, 1) := by decide +kernel
theorem dX10_zone_65 : decode cX10_zone 65 = .ok (.getfield 19, 3) := by decide +kernel
theorem dX10_zone_68 : decode cX10_zone 68 = .ok (.aload_n 3, 1) := by decide +kernel
theorem dX10_zone_69 : decode cX10_zone 69 = .ok (.iload_n 1, 1) := by decide +kernel
theorem dX10_zone_70 : decode cX10_zone 70 = .ok (.invokevirtual 167, 3) := by decide +kernel
theorem dX10_zone_73 : decode cX10_zone 73 = .ok (.ireturn, 1) := by decide +kernel
theorem dX10_zone_74 : decode cX10_zone 74 = .ok (.new 142, 3) := by decide +kernel
theorem dX10_zone_77 : decode cX10_zone 77 = .ok (.dup, 1) := by decide +kernel
theorem dX10_zone_78 : decode cX10_zone 78 = .ok (.ldc 171, 2) := by decide +kernel
theorem dX10_zone_80 : decode cX10_zone 80 = .ok (.invokespecial 146, 3) := by decide +kernel
theorem dX10_zone_83 : decode cX10_zone 83 = .ok (.athrow, 1) := by decide +kernel
theorem dX10_ship_0 : decode cX10_ship 0 = .ok (.aload_n 0, 1) := by decide +kernel
theorem dX10_ship_1 : decode cX10_ship 1 = .ok (.iload_n 1, 1) := by decide +kernel
theorem dX10_ship_2 : decode cX10_ship 2 = .ok (.invokevirtual 173, 3) := by decide +kernel
theorem dX10_ship_5 : decode cX10_ship 5 = .ok (.astore_n 3, 1) := by decide +kernel
theorem dX10_ship_6 : decode cX10_ship 6 = .ok (.iload_n 2, 1) := by decide +kernel
theorem dX10_ship_7 : decode cX10_ship 7 = .ok (.tableswitch 85 0 7 #[45, 50, 55, 60, 65, 70, 75, 80], 45) := by decide +kernel
theorem dX10_ship_52 : decode cX10_ship 52 = .ok (.aload_n 3, 1) := by decide +kernel
theorem dX10_ship_53 : decode cX10_ship 53 = .ok (.getfield 177, 3) := by decide +kernel
theorem dX10_ship_56 : decode cX10_ship 56 = .ok (.ireturn, 1) := by decide +kernel
theorem dX10_ship_57 : decode cX10_ship 57 = .ok (.aload_n 3, 1) := by decide +kernel
theorem dX10_ship_58 : decode cX10_ship 58 = .ok (.getfield 182, 3) := by decide +kernel
theorem dX10_ship_61 : decode cX10_ship 61 = .ok (.ireturn, 1) := by decide +kernel
theorem dX10_ship_62 : decode cX10_ship 62 = .ok (.aload_n 3, 1) := by decide +kernel
theorem dX10_ship_63 : decode cX10_ship 63 = .ok (.getfield 185, 3) := by decide +kernel
theorem dX10_ship_66 : decode cX10_ship 66 = .ok (.ireturn, 1) := by decide +kernel
theorem dX10_ship_67 : decode cX10_ship 67 = .ok (.aload_n 3, 1) := by decide +kernel
theorem dX10_ship_68 : decode cX10_ship 68 = .ok (.getfield 188, 3) := by decide +kernel
theorem dX10_ship_71 : decode cX10_ship 71 = .ok (.ireturn, 1) := by decide +kernel
theorem dX10_ship_72 : decode cX10_ship 72 = .ok (.aload_n 3, 1) := by decide +kernel
theorem dX10_ship_73 : decode cX10_ship 73 = .ok (.getfield 191, 3) := by decide +kernel
theorem dX10_ship_76 : decode cX10_ship 76 = .ok (.ireturn, 1) := by decide +kernel
theorem dX10_ship_77 : decode cX10_ship 77 = .ok (.aload_n 3, 1) := by decide +kernel
theorem dX10_ship_78 : decode cX10_ship 78 = .ok (.getfield 194, 3) := by decide +kernel
theorem dX10_ship_81 : decode cX10_ship 81 = .ok (.ireturn, 1) := by decide +kernel
theorem dX10_ship_82 : decode cX10_ship 82 = .ok (.aload_n 3, 1) := by decide +kernel
theorem dX10_ship_83 : decode cX10_ship 83 = .ok (.getfield 197, 3) := by decide +kernel
theorem dX10_ship_86 : decode cX10_ship 86 = .ok (.ireturn, 1) := by decide +kernel
theorem dX10_ship_87 : decode cX10_ship 87 = .ok (.aload_n 3, 1) := by decide +kernel
theorem dX10_ship_88 : decode cX10_ship 88 = .ok (.getfield 198, 3) := by decide +kernel
theorem dX10_ship_91 : decode cX10_ship 91 = .ok (.ireturn, 1) := by decide +kernel
theorem dX10_ship_92 : decode cX10_ship 92 = .ok (.new 142, 3) := by decide +kernel
theorem dX10_ship_95 : decode cX10_ship 95 = .ok (.dup, 1) := by decide +kernel
theorem dX10_ship_96 : decode cX10_ship 96 = .ok (.ldc 201, 2) := by decide +kernel
theorem dX10_ship_98 : decode cX10_ship 98 = .ok (.invokespecial 146, 3) := by decide +kernel
theorem dX10_ship_101 : decode cX10_ship 101 = .ok (.athrow, 1) := by decide +kernel
theorem dX10_waves_0 : decode cX10_waves 0 = .ok (.iload_n 1, 1) := by decide +kernel
theorem dX10_waves_1 : decode cX10_waves 1 = .ok (.iconst 0, 1) := by decide +kernel
theorem dX10_waves_2 : decode cX10_waves 2 = .ok (.sipush 9999, 3) := by decide +kernel
theorem dX10_waves_5 : decode cX10_waves 5 = .ok (.invokestatic 61, 3) := by decide +kernel
theorem dX10_waves_8 : decode cX10_waves 8 = .ok (.aload_n 0, 1) := by decide +kernel
theorem dX10_waves_9 : decode cX10_waves 9 = .ok (.getfield 19, 3) := by decide +kernel
theorem dX10_waves_12 : decode cX10_waves 12 = .ok (.getfield 51, 3) := by decide +kernel
theorem dX10_waves_15 : decode cX10_waves 15 = .ok (.iload_n 1, 1) := by decide +kernel
theorem dX10_waves_16 : decode cX10_waves 16 = .ok (.invokevirtual 203, 3) := by decide +kernel
theorem dX10_waves_19 : decode cX10_waves 19 = .ok (.ireturn, 1) := by decide +kernel
theorem dX10_account_0 : decode cX10_account 0 = .ok (.aload_n 0, 1) := by decide +kernel
theorem dX10_account_1 : decode cX10_account 1 = .ok (.getfield 19, 3) := by decide +kernel
theorem dX10_account_4 : decode cX10_account 4 = .ok (.getfield 207, 3) := by decide +kernel
theorem dX10_account_7 : decode cX10_account 7 = .ok (.astore_n 2, 1) := by decide +kernel
theorem dX10_account_8 : decode cX10_account 8 = .ok (.iload_n 1, 1) := by decide +kernel
theorem dX10_account_9 : decode cX10_account 9 = .ok (.tableswitch 90 0 7 #[47, 52, 57, 62, 70, 75, 80, 85], 47) := by decide +kernel
theorem dX10_account_56 : decode cX10_account 56 = .ok (.aload_n 2, 1) := by decide +kernel
theorem dX10_account_57 : decode cX10_account 57 = .ok (.getfield 211, 3) := by decide +kernel
theorem dX10_account_60 : decode cX10_account 60 = .ok (.ireturn, 1) := by decide +kernel
theorem dX10_account_61 : decode cX10_account 61 = .ok (.aload_n 2, 1) := by decide +kernel
theorem dX10_account_62 : decode cX10_account 62 = .ok (.getfield 216, 3) := by decide +kernel
theorem dX10_account_65 : decode cX10_account 65 = .ok (.ireturn, 1) := by decide +kernel
theorem dX10_account_66 : decode cX10_account 66 = .ok (.aload_n 2, 1) := by decide +kernel
theorem dX10_account_67 : decode cX10_account 67 = .ok (.getfield 217, 3) := by decide +kernel
theorem dX10_account_70 : decode cX10_account 70 = .ok (.ireturn, 1) := by decide +kernel
theorem dX10_account_71 : decode cX10_account 71 = .ok (.aload_n 0, 1) := by decide +kernel
theorem dX10_account_72 : decode cX10_account 72 = .ok (.getfield 19, 3) := by decide +kernel
theorem dX10_account_75 : decode cX10_account 75 = .ok (.invokevirtual 220, 3) := by decide +kernel
theorem dX10_account_78 : decode cX10_account 78 = .ok (.ireturn, 1) := by decide +kernel
theorem dX10_account_79 : decode cX10_account 79 = .ok (.aload_n 2, 1) := by decide +kernel
theorem dX10_account_80 : decode cX10_account 80 = .ok (.getfield 223, 3) := by decide +kernel
theorem dX10_account_83 : decode cX10_account 83 = .ok (.ireturn, 1) := by decide +kernel
theorem dX10_account_84 : decode cX10_account 84 = .ok (.aload_n 2, 1) := by decide +kernel
theorem dX10_account_85 : decode cX10_account 85 = .ok (.getfield 226, 3) := by decide +kernel
theorem dX10_account_88 : decode cX10_account 88 = .ok (.ireturn, 1) := by decide +kernel
theorem dX10_account_89 : decode cX10_account 89 = .ok (.aload_n 2, 1) := by decide +kernel
theorem dX10_account_90 : decode cX10_account 90 = .ok (.getfield 229, 3) := by decide +kernel
theorem dX10_account_93 : decode cX10_account 93 = .ok (.ireturn, 1) := by decide +kernel
theorem dX10_account_94 : decode cX10_account 94 = .ok (.aload_n 2, 1) := by decide +kernel
theorem dX10_account_95 : decode cX10_account 95 = .ok (.getfield 232, 3) := by decide +kernel
theorem dX10_account_98 : decode cX10_account 98 = .ok (.ireturn, 1) := by decide +kernel
theorem dX10_account_99 : decode cX10_account 99 = .ok (.new 142, 3) := by decide +kernel
theorem dX10_account_102 : decode cX10_account 102 = .ok (.dup, 1) := by decide +kernel
theorem dX10_account_103 : decode cX10_account 103 = .ok (.ldc 235, 2) := by decide +kernel
theorem dX10_account_105 : decode cX10_account 105 = .ok (.invokespecial 146, 3) := by decide +kernel
theorem dX10_account_108 : decode cX10_account 108 = .ok (.athrow, 1) := by decide +kernel
theorem dX10_take_0 : decode cX10_take 0 = .ok (.aload_n 0, 1) := by decide +kernel
theorem dX10_take_1 : decode cX10_take 1 = .ok (.iload_n 1, 1) := by decide +kernel
theorem dX10_take_2 : decode cX10_take 2 = .ok (.invokevirtual 173, 3) := by decide +kernel
theorem dX10_take_5 : decode cX10_take 5 = .ok (.astore_n 3, 1) := by decide +kernel
theorem dX10_take_6 : decode cX10_take 6 = .ok (.iload_n 2, 1) := by decide +kernel
theorem dX10_take_7 : decode cX10_take 7 = .ok (.iconst 1, 1) := by decide +kernel
theorem dX10_take_8 : decode cX10_take 8 = .ok (.sipush 999, 3) := by decide +kernel
theorem dX10_take_11 : decode cX10_take 11 = .ok (.invokestatic 61, 3) := by decide +kernel
theorem dX10_take_14 : decode cX10_take 14 = .ok (.aload_n 0, 1) := by decide +kernel
theorem dX10_take_15 : decode cX10_take 15 = .ok (.getfield 19, 3) := by decide +kernel
theorem dX10_take_18 : decode cX10_take 18 = .ok (.aload_n 3, 1) := by decide +kernel
theorem dX10_take_19 : decode cX10_take 19 = .ok (.iload_n 2, 1) := by decide +kernel
theorem dX10_take_20 : decode cX10_take 20 = .ok (.invokevirtual 237, 3) := by decide +kernel
theorem dX10_take_23 : decode cX10_take 23 = .ok (.invokestatic 68, 3) := by decide +kernel
theorem dX10_take_26 : decode cX10_take 26 = .ok (.aload_n 0, 1) := by decide +kernel
theorem dX10_take_27 : decode cX10_take 27 = .ok (.getfield 29, 3) := by decide +kernel
theorem dX10_take_30 : decode cX10_take 30 = .ok (.aload_n 0, 1) := by decide +kernel
theorem dX10_take_31 : decode cX10_take 31 = .ok (.getfield 19, 3) := by decide +kernel
theorem dX10_take_34 : decode cX10_take 34 = .ok (.invokevirtual 241, 3) := by decide +kernel
theorem dX10_take_37 : decode cX10_take 37 = .ok (.aload_n 0, 1) := by decide +kernel
theorem dX10_take_38 : decode cX10_take 38 = .ok (.getfield 19, 3) := by decide +kernel
theorem dX10_take_41 : decode cX10_take 41 = .ok (.aload_n 3, 1) := by decide +kernel
theorem dX10_take_42 : decode cX10_take 42 = .ok (.iload_n 2, 1) := by decide +kernel
theorem dX10_take_43 : decode cX10_take 43 = .ok (.invokevirtual 244, 3) := by decide +kernel
theorem dX10_take_46 : decode cX10_take 46 = .ok (.aload_n 3, 1) := by decide +kernel
theorem dX10_take_47 : decode cX10_take 47 = .ok (.getfield 191, 3) := by decide +kernel
theorem dX10_take_50 : decode cX10_take 50 = .ok (.ireturn, 1) := by decide +kernel
theorem dX10_send_0 : decode cX10_send 0 = .ok (.aload_n 0, 1) := by decide +kernel
theorem dX10_send_1 : decode cX10_send 1 = .ok (.iload_n 1, 1) := by decide +kernel
theorem dX10_send_2 : decode cX10_send 2 = .ok (.invokevirtual 173, 3) := by decide +kernel
theorem dX10_send_5 : decode cX10_send 5 = .ok (.astore_n 2, 1) := by decide +kernel
theorem dX10_send_6 : decode cX10_send 6 = .ok (.aload_n 0, 1) := by decide +kernel
theorem dX10_send_7 : decode cX10_send 7 = .ok (.getfield 19, 3) := by decide +kernel
theorem dX10_send_10 : decode cX10_send 10 = .ok (.aload_n 2, 1) := by decide +kernel
theorem dX10_send_11 : decode cX10_send 11 = .ok (.invokevirtual 248, 3) := by decide +kernel
theorem dX10_send_14 : decode cX10_send 14 = .ok (.invokestatic 68, 3) := by decide +kernel
theorem dX10_send_17 : decode cX10_send 17 = .ok (.aload_n 0, 1) := by decide +kernel
theorem dX10_send_18 : decode cX10_send 18 = .ok (.getfield 29, 3) := by decide +kernel
theorem dX10_send_21 : decode cX10_send 21 = .ok (.aload_n 0, 1) := by decide +kernel
theorem dX10_send_22 : decode cX10_send 22 = .ok (.getfield 19, 3) := by decide +kernel
theorem dX10_send_25 : decode cX10_send 25 = .ok (.invokevirtual 241, 3) := by decide +kernel
theorem dX10_send_28 : decode cX10_send 28 = .ok (.aload_n 0, 1) := by decide +kernel
theorem dX10_send_29 : decode cX10_send 29 = .ok (.getfield 19, 3) := by decide +kernel
theorem dX10_send_32 : decode cX10_send 32 = .ok (.aload_n 2, 1) := by decide +kernel
theorem dX10_send_33 : decode cX10_send 33 = .ok (.invokevirtual 252, 3) := by decide +kernel
theorem dX10_send_36 : decode cX10_send 36 = .ok (.aload_n 2, 1) := by decide +kernel
theorem dX10_send_37 : decode cX10_send 37 = .ok (.getfield 197, 3) := by decide +kernel
theorem dX10_send_40 : decode cX10_send 40 = .ok (.ireturn, 1) := by decide +kernel
theorem dX10_recall_0 : decode cX10_recall 0 = .ok (.aload_n 0, 1) := by decide +kernel
theorem dX10_recall_1 : decode cX10_recall 1 = .ok (.iload_n 1, 1) := by decide +kernel
theorem dX10_recall_2 : decode cX10_recall 2 = .ok (.invokevirtual 173, 3) := by decide +kernel
theorem dX10_recall_5 : decode cX10_recall 5 = .ok (.astore_n 2, 1) := by decide +kernel
theorem dX10_recall_6 : decode cX10_recall 6 = .ok (.aload_n 0, 1) := by decide +kernel
theorem dX10_recall_7 : decode cX10_recall 7 = .ok (.getfield 19, 3) := by decide +kernel
theorem dX10_recall_10 : decode cX10_recall 10 = .ok (.aload_n 2, 1) := by decide +kernel
theorem dX10_recall_11 : decode cX10_recall 11 = .ok (.invokevirtual 256, 3) := by decide +kernel
theorem dX10_recall_14 : decode cX10_recall 14 = .ok (.invokestatic 68, 3) := by decide +kernel
theorem dX10_recall_17 : decode cX10_recall 17 = .ok (.aload_n 0, 1) := by decide +kernel
theorem dX10_recall_18 : decode cX10_recall 18 = .ok (.getfield 29, 3) := by decide +kernel
theorem dX10_recall_21 : decode cX10_recall 21 = .ok (.aload_n 0, 1) := by decide +kernel
theorem dX10_recall_22 : decode cX10_recall 22 = .ok (.getfield 19, 3) := by decide +kernel
theorem dX10_recall_25 : decode cX10_recall 25 = .ok (.invokevirtual 241, 3) := by decide +kernel
theorem dX10_recall_28 : decode cX10_recall 28 = .ok (.aload_n 0, 1) := by decide +kernel
theorem dX10_recall_29 : decode cX10_recall 29 = .ok (.getfield 19, 3) := by decide +kernel
theorem dX10_recall_32 : decode cX10_recall 32 = .ok (.aload_n 2, 1) := by decide +kernel
theorem dX10_recall_33 : decode cX10_recall 33 = .ok (.invokevirtual 259, 3) := by decide +kernel
theorem dX10_recall_36 : decode cX10_recall 36 = .ok (.aload_n 2, 1) := by decide +kernel
theorem dX10_recall_37 : decode cX10_recall 37 = .ok (.getfield 197, 3) := by decide +kernel
theorem dX10_recall_40 : decode cX10_recall 40 = .ok (.ireturn, 1) := by decide +kernel
theorem dX10_extend_0 : decode cX10_extend 0 = .ok (.aload_n 0, 1) := by decide +kernel
theorem dX10_extend_1 : decode cX10_extend 1 = .ok (.getfield 19, 3) := by decide +kernel
theorem dX10_extend_4 : decode cX10_extend 4 = .ok (.iload_n 1, 1) := by decide +kernel
theorem dX10_extend_5 : decode cX10_extend 5 = .ok (.invokestatic 149, 3) := by decide +kernel
theorem dX10_extend_8 : decode cX10_extend 8 = .ok (.astore_n 3, 1) := by decide +kernel
theorem dX10_extend_9 : decode cX10_extend 9 = .ok (.iload_n 2, 1) := by decide +kernel
theorem dX10_extend_10 : decode cX10_extend 10 = .ok (.iconst 1, 1) := by decide +kernel
theorem dX10_extend_11 : decode cX10_extend 11 = .ok (.bipush 99, 2) := by decide +kernel
theorem dX10_extend_13 : decode cX10_extend 13 = .ok (.invokestatic 61, 3) := by decide +kernel
theorem dX10_extend_16 : decode cX10_extend 16 = .ok (.aload_n 0, 1) := by decide +kernel
theorem dX10_extend_17 : decode cX10_extend 17 = .ok (.getfield 19, 3) := by decide +kernel
theorem dX10_extend_20 : decode cX10_extend 20 = .ok (.aload_n 3, 1) := by decide +kernel
theorem dX10_extend_21 : decode cX10_extend 21 = .ok (.iload_n 2, 1) := by decide +kernel
theorem dX10_extend_22 : decode cX10_extend 22 = .ok (.invokevirtual 262, 3) := by decide +kernel
theorem dX10_extend_25 : decode cX10_extend 25 = .ok (.invokestatic 68, 3) := by decide +kernel
theorem dX10_extend_28 : decode cX10_extend 28 = .ok (.aload_n 0, 1) := by decide +kernel
theorem dX10_extend_29 : decode cX10_extend 29 = .ok (.getfield 29, 3) := by decide +kernel
theorem dX10_extend_32 : decode cX10_extend 32 = .ok (.aload_n 0, 1) := by decide +kernel
theorem dX10_extend_33 : decode cX10_extend 33 = .ok (.getfield 19, 3) := by decide +kernel
theorem dX10_extend_36 : decode cX10_extend 36 = .ok (.invokevirtual 241, 3) := by decide +kernel
theorem dX10_extend_39 : decode cX10_extend 39 = .ok (.aload_n 0, 1) := by decide +kernel
theorem dX10_extend_40 : decode cX10_extend 40 = .ok (.getfield 19, 3) := by decide +kernel
theorem dX10_extend_43 : decode cX10_extend 43 = .ok (.aload_n 3, 1) := by decide +kernel
theorem dX10_extend_44 : decode cX10_extend 44 = .ok (.iload_n 2, 1) := by decide +kernel
theorem dX10_extend_45 : decode cX10_extend 45 = .ok (.invokevirtual 266, 3) := by decide +kernel
theorem dX10_extend_48 : decode cX10_extend 48 = .ok (.aload_n 3, 1) := by decide +kernel
theorem dX10_extend_49 : decode cX10_extend 49 = .ok (.getfield 161, 3) := by decide +kernel
theorem dX10_extend_52 : decode cX10_extend 52 = .ok (.ireturn, 1) := by decide +kernel
theorem dX10_buy_0 : decode cX10_buy 0 = .ok (.iload_n 1, 1) := by decide +kernel
theorem dX10_buy_1 : decode cX10_buy 1 = .ok (.iconst 1, 1) := by decide +kernel
theorem dX10_buy_2 : decode cX10_buy 2 = .ok (.sipush 999, 3) := by decide +kernel
theorem dX10_buy_5 : decode cX10_buy 5 = .ok (.invokestatic 61, 3) := by decide +kernel
theorem dX10_buy_8 : decode cX10_buy 8 = .ok (.aload_n 0, 1) := by decide +kernel
theorem dX10_buy_9 : decode cX10_buy 9 = .ok (.getfield 19, 3) := by decide +kernel
theorem dX10_buy_12 : decode cX10_buy 12 = .ok (.iload_n 1, 1) := by decide +kernel
theorem dX10_buy_13 : decode cX10_buy 13 = .ok (.invokevirtual 270, 3) := by decide +kernel
theorem dX10_buy_16 : decode cX10_buy 16 = .ok (.invokestatic 68, 3) := by decide +kernel
theorem dX10_buy_19 : decode cX10_buy 19 = .ok (.aload_n 0, 1) := by decide +kernel
theorem dX10_buy_20 : decode cX10_buy 20 = .ok (.getfield 29, 3) := by decide +kernel
theorem dX10_buy_23 : decode cX10_buy 23 = .ok (.aload_n 0, 1) := by decide +kernel
theorem dX10_buy_24 : decode cX10_buy 24 = .ok (.getfield 19, 3) := by decide +kernel
theorem dX10_buy_27 : decode cX10_buy 27 = .ok (.invokevirtual 241, 3) := by decide +kernel
theorem dX10_buy_30 : decode cX10_buy 30 = .ok (.aload_n 0, 1) := by decide +kernel
theorem dX10_buy_31 : decode cX10_buy 31 = .ok (.getfield 19, 3) := by decide +kernel
theorem dX10_buy_34 : decode cX10_buy 34 = .ok (.iload_n 1, 1) := by decide +kernel
theorem dX10_buy_35 : decode cX10_buy 35 = .ok (.invokevirtual 274, 3) := by decide +kernel
theorem dX10_buy_38 : decode cX10_buy 38 = .ok (.aload_n 0, 1) := by decide +kernel
theorem dX10_buy_39 : decode cX10_buy 39 = .ok (.getfield 19, 3) := by decide +kernel
theorem dX10_buy_42 : decode cX10_buy 42 = .ok (.getfield 112, 3) := by decide +kernel
theorem dX10_buy_45 : decode cX10_buy 45 = .ok (.ireturn, 1) := by decide +kernel
theorem dX10_setWaves_0 : decode cX10_setWaves 0 = .ok (.iload_n 1, 1) := by decide +kernel
theorem dX10_setWaves_1 : decode cX10_setWaves 1 = .ok (.iconst 0, 1) := by decide +kernel
theorem dX10_setWaves_2 : decode cX10_setWaves 2 = .ok (.aload_n 0, 1) := by decide +kernel
theorem dX10_setWaves_3 : decode cX10_setWaves 3 = .ok (.getfield 19, 3) := by decide +kernel
theorem dX10_setWaves_6 : decode cX10_setWaves 6 = .ok (.getfield 51, 3) := by decide +kernel
theorem dX10_setWaves_9 : decode cX10_setWaves 9 = .ok (.getfield 277, 3) := by decide +kernel
theorem dX10_setWaves_12 : decode cX10_setWaves 12 = .ok (.iconst 1, 1) := by decide +kernel
theorem dX10_setWaves_13 : decode cX10_setWaves 13 = .ok (.isub, 1) := by decide +kernel
theorem dX10_setWaves_14 : decode cX10_setWaves 14 = .ok (.invokestatic 61, 3) := by decide +kernel
theorem dX10_setWaves_17 : decode cX10_setWaves 17 = .ok (.iload_n 2, 1) := by decide +kernel
theorem dX10_setWaves_18 : decode cX10_setWaves 18 = .ok (.iconst 0, 1) := by decide +kernel
theorem dX10_setWaves_19 : decode cX10_setWaves 19 = .ok (.bipush 9, 2) := by decide +kernel
theorem dX10_setWaves_21 : decode cX10_setWaves 21 = .ok (.invokestatic 61, 3) := by decide +kernel
theorem dX10_setWaves_24 : decode cX10_setWaves 24 = .ok (.aload_n 0, 1) := by decide +kernel
theorem dX10_setWaves_25 : decode cX10_setWaves 25 = .ok (.getfield 29, 3) := by decide +kernel
theorem dX10_setWaves_28 : decode cX10_setWaves 28 = .ok (.aload_n 0, 1) := by decide +kernel
theorem dX10_setWaves_29 : decode cX10_setWaves 29 = .ok (.getfield 19, 3) := by decide +kernel
theorem dX10_setWaves_32 : decode cX10_setWaves 32 = .ok (.invokevirtual 241, 3) := by decide +kernel
theorem dX10_setWaves_35 : decode cX10_setWaves 35 = .ok (.aload_n 0, 1) := by decide +kernel
theorem dX10_setWaves_36 : decode cX10_setWaves 36 = .ok (.getfield 19, 3) := by decide +kernel
theorem dX10_setWaves_39 : decode cX10_setWaves 39 = .ok (.getfield 51, 3) := by decide +kernel
theorem dX10_setWaves_42 : decode cX10_setWaves 42 = .ok (.iload_n 1, 1) := by decide +kernel
theorem dX10_setWaves_43 : decode cX10_setWaves 43 = .ok (.iload_n 2, 1) := by decide +kernel
theorem dX10_setWaves_44 : decode cX10_setWaves 44 = .ok (.invokevirtual 278, 3) := by decide +kernel
theorem dX10_setWaves_47 : decode cX10_setWaves 47 = .ok (.ireturn, 1) := by decide +kernel
theorem dX10_pass_0 : decode cX10_pass 0 = .ok (.iload_n 1, 1) := by decide +kernel
theorem dX10_pass_1 : decode cX10_pass 1 = .ok (.iconst 1, 1) := by decide +kernel
theorem dX10_pass_2 : decode cX10_pass 2 = .ok (.bipush 99, 2) := by decide +kernel
theorem dX10_pass_4 : decode cX10_pass 4 = .ok (.invokestatic 61, 3) := by decide +kernel
theorem dX10_pass_7 : decode cX10_pass 7 = .ok (.aload_n 0, 1) := by decide +kernel
theorem dX10_pass_8 : decode cX10_pass 8 = .ok (.getfield 29, 3) := by decide +kernel
theorem dX10_pass_11 : decode cX10_pass 11 = .ok (.aload_n 0, 1) := by decide +kernel
theorem dX10_pass_12 : decode cX10_pass 12 = .ok (.getfield 19, 3) := by decide +kernel
theorem dX10_pass_15 : decode cX10_pass 15 = .ok (.invokevirtual 241, 3) := by decide +kernel
theorem dX10_pass_18 : decode cX10_pass 18 = .ok (.aload_n 0, 1) := by decide +kernel
theorem dX10_pass_19 : decode cX10_pass 19 = .ok (.getfield 19, 3) := by decide +kernel
theorem dX10_pass_22 : decode cX10_pass 22 = .ok (.getfield 207, 3) := by decide +kernel
theorem dX10_pass_25 : decode cX10_pass 25 = .ok (.getfield 216, 3) := by decide +kernel
theorem dX10_pass_28 : decode cX10_pass 28 = .ok (.istore_n 2, 1) := by decide +kernel
theorem dX10_pass_29 : decode cX10_pass 29 = .ok (.aload_n 0, 1) := by decide +kernel
theorem dX10_pass_30 : decode cX10_pass 30 = .ok (.getfield 19, 3) := by decide +kernel
theorem dX10_pass_33 : decode cX10_pass 33 = .ok (.iload_n 1, 1) := by decide +kernel
theorem dX10_pass_34 : decode cX10_pass 34 = .ok (.invokevirtual 282, 3) := by decide +kernel
theorem dX10_pass_37 : decode cX10_pass 37 = .ok (.aload_n 0, 1) := by decide +kernel
theorem dX10_pass_38 : decode cX10_pass 38 = .ok (.getfield 19, 3) := by decide +kernel
theorem dX10_pass_41 : decode cX10_pass 41 = .ok (.getfield 207, 3) := by decide +kernel
theorem dX10_pass_44 : decode cX10_pass 44 = .ok (.getfield 216, 3) := by decide +kernel
theorem dX10_pass_47 : decode cX10_pass 47 = .ok (.iload_n 2, 1) := by decide +kernel
theorem dX10_pass_48 : decode cX10_pass 48 = .ok (.isub, 1) := by decide +kernel
theorem dX10_pass_49 : decode cX10_pass 49 = .ok (.ireturn, 1) := by decide +kernel
theorem dX10_undo_0 : decode cX10_undo 0 = .ok (.aload_n 0, 1) := by decide +kernel
theorem dX10_undo_1 : decode cX10_undo 1 = .ok (.getfield 29, 3) := by decide +kernel
theorem dX10_undo_4 : decode cX10_undo 4 = .ok (.getfield 285, 3) := by decide +kernel
theorem dX10_undo_7 : decode cX10_undo 7 = .ok (.ifCond .le 7, 3) := by decide +kernel
theorem dX10_undo_10 : decode cX10_undo 10 = .ok (.iconst 1, 1) := by decide +kernel
theorem dX10_undo_11 : decode cX10_undo 11 = .ok (.goto 4, 3) := by decide +kernel
theorem dX10_undo_14 : decode cX10_undo 14 = .ok (.iconst 0, 1) := by decide +kernel
theorem dX10_undo_15 : decode cX10_undo 15 = .ok (.invokestatic 68, 3) := by decide +kernel
theorem dX10_undo_18 : decode cX10_undo 18 = .ok (.aload_n 0, 1) := by decide +kernel
theorem dX10_undo_19 : decode cX10_undo 19 = .ok (.getfield 29, 3) := by decide +kernel
theorem dX10_undo_22 : decode cX10_undo 22 = .ok (.aload_n 0, 1) := by decide +kernel
theorem dX10_undo_23 : decode cX10_undo 23 = .ok (.getfield 19, 3) := by decide +kernel
theorem dX10_undo_26 : decode cX10_undo 26 = .ok (.invokevirtual 286, 3) := by decide +kernel
theorem dX10_undo_29 : decode cX10_undo 29 = .ok (.ireturn, 1) := by decide +kernel
theorem dX10_needs_0 : decode cX10_needs 0 = .ok (.aload_n 0, 1) := by decide +kernel
theorem dX10_needs_1 : decode cX10_needs 1 = .ok (.getfield 19, 3) := by decide +kernel
theorem dX10_needs_4 : decode cX10_needs 4 = .ok (.iload_n 1, 1) := by decide +kernel
theorem dX10_needs_5 : decode cX10_needs 5 = .ok (.invokestatic 149, 3) := by decide +kernel
theorem dX10_needs_8 : decode cX10_needs 8 = .ok (.astore_n 3, 1) := by decide +kernel
theorem dX10_needs_9 : decode cX10_needs 9 = .ok (.iload_n 2, 1) := by decide +kernel
theorem dX10_needs_10 : decode cX10_needs 10 = .ok (.iconst 0, 1) := by decide +kernel
theorem dX10_needs_11 : decode cX10_needs 11 = .ok (.bipush 99, 2) := by decide +kernel
theorem dX10_needs_13 : decode cX10_needs 13 = .ok (.invokestatic 61, 3) := by decide +kernel
theorem dX10_needs_16 : decode cX10_needs 16 = .ok (.aload_n 3, 1) := by decide +kernel
theorem dX10_needs_17 : decode cX10_needs 17 = .ok (.iload_n 2, 1) := by decide +kernel
theorem dX10_needs_18 : decode cX10_needs 18 = .ok (.invokevirtual 289, 3) := by decide +kernel
theorem dX10_needs_21 : decode cX10_needs 21 = .ok (.ireturn, 1) := by decide +kernel
theorem dX10_reach_0 : decode cX10_reach 0 = .ok (.aload_n 0, 1) := by decide +kernel
theorem dX10_reach_1 : decode cX10_reach 1 = .ok (.iload_n 1, 1) := by decide +kernel
theorem dX10_reach_2 : decode cX10_reach 2 = .ok (.invokevirtual 173, 3) := by decide +kernel
theorem dX10_reach_5 : decode cX10_reach 5 = .ok (.astore_n 3, 1) := by decide +kernel
theorem dX10_reach_6 : decode cX10_reach 6 = .ok (.aload_n 0, 1) := by decide +kernel
theorem dX10_reach_7 : decode cX10_reach 7 = .ok (.getfield 19, 3) := by decide +kernel
theorem dX10_reach_10 : decode cX10_reach 10 = .ok (.iload_n 2, 1) := by decide +kernel
theorem dX10_reach_11 : decode cX10_reach 11 = .ok (.invokestatic 149, 3) := by decide +kernel
theorem dX10_reach_14 : decode cX10_reach 14 = .ok (.astore 4, 2) := by decide +kernel
theorem dX10_reach_16 : decode cX10_reach 16 = .ok (.aload 4, 2) := by decide +kernel
theorem dX10_reach_18 : decode cX10_reach 18 = .ok (.aload 4, 2) := by decide +kernel
theorem dX10_reach_20 : decode cX10_reach 20 = .ok (.getfield 153, 3) := by decide +kernel
theorem dX10_reach_23 : decode cX10_reach 23 = .ok (.aload_n 3, 1) := by decide +kernel
theorem dX10_reach_24 : decode cX10_reach 24 = .ok (.getfield 191, 3) := by decide +kernel
theorem dX10_reach_27 : decode cX10_reach 27 = .ok (.invokevirtual 292, 3) := by decide +kernel
theorem dX10_reach_30 : decode cX10_reach 30 = .ok (.ireturn, 1) := by decide +kernel
theorem dX10_calmDays_0 : decode cX10_calmDays 0 = .ok (.aload_n 0, 1) := by decide +kernel
theorem dX10_calmDays_1 : decode cX10_calmDays 1 = .ok (.iload_n 1, 1) := by decide +kernel
theorem dX10_calmDays_2 : decode cX10_calmDays 2 = .ok (.invokevirtual 173, 3) := by decide +kernel
theorem dX10_calmDays_5 : decode cX10_calmDays 5 = .ok (.astore_n 3, 1) := by decide +kernel
theorem dX10_calmDays_6 : decode cX10_calmDays 6 = .ok (.aload_n 0, 1) := by decide +kernel
theorem dX10_calmDays_7 : decode cX10_calmDays 7 = .ok (.getfield 19, 3) := by decide +kernel
theorem dX10_calmDays_10 : decode cX10_calmDays 10 = .ok (.iload_n 2, 1) := by decide +kernel
theorem dX10_calmDays_11 : decode cX10_calmDays 11 = .ok (.invokestatic 149, 3) := by decide +kernel
theorem dX10_calmDays_14 : decode cX10_calmDays 14 = .ok (.astore 4, 2) := by decide +kernel
theorem dX10_calmDays_16 : decode cX10_calmDays 16 = .ok (.iconst 0, 1) := by decide +kernel
theorem dX10_calmDays_17 : decode cX10_calmDays 17 = .ok (.istore 5, 2) := by decide +kernel
theorem dX10_calmDays_19 : decode cX10_calmDays 19 = .ok (.aload_n 0, 1) := by decide +kernel
theorem dX10_calmDays_20 : decode cX10_calmDays 20 = .ok (.getfield 19, 3) := by decide +kernel
theorem dX10_calmDays_23 : decode cX10_calmDays 23 = .ok (.getfield 115, 3) := by decide +kernel
theorem dX10_calmDays_26 : decode cX10_calmDays 26 = .ok (.aload 4, 2) := by decide +kernel
theorem dX10_calmDays_28 : decode cX10_calmDays 28 = .ok (.getfield 158, 3) := by decide +kernel
theorem dX10_calmDays_31 : decode cX10_calmDays 31 = .ok (.invokestatic 295, 3) := by decide +kernel
theorem dX10_calmDays_34 : decode cX10_calmDays 34 = .ok (.istore 6, 2) := by decide +kernel
theorem dX10_calmDays_36 : decode cX10_calmDays 36 = .ok (.iload 6, 2) := by decide +kernel
theorem dX10_calmDays_38 : decode cX10_calmDays 38 = .ok (.aload 4, 2) := by decide +kernel
theorem dX10_calmDays_40 : decode cX10_calmDays 40 = .ok (.getfield 161, 3) := by decide +kernel
theorem dX10_calmDays_43 : decode cX10_calmDays 43 = .ok (.if_icmp .gt 31, 3) := by decide +kernel
theorem dX10_calmDays_46 : decode cX10_calmDays 46 = .ok (.aload_n 0, 1) := by decide +kernel
theorem dX10_calmDays_47 : decode cX10_calmDays 47 = .ok (.getfield 19, 3) := by decide +kernel
theorem dX10_calmDays_50 : decode cX10_calmDays 50 = .ok (.getfield 51, 3) := by decide +kernel
theorem dX10_calmDays_53 : decode cX10_calmDays 53 = .ok (.iload 6, 2) := by decide +kernel
theorem dX10_calmDays_55 : decode cX10_calmDays 55 = .ok (.invokevirtual 203, 3) := by decide +kernel
theorem dX10_calmDays_58 : decode cX10_calmDays 58 = .ok (.aload_n 3, 1) := by decide +kernel
theorem dX10_calmDays_59 : decode cX10_calmDays 59 = .ok (.getfield 185, 3) := by decide +kernel
theorem dX10_calmDays_62 : decode cX10_calmDays 62 = .ok (.if_icmp .gt 6, 3) := by decide +kernel
theorem dX10_calmDays_65 : decode cX10_calmDays 65 = .ok (.iinc 5 1, 3) := by decide +kernel
theorem dX10_calmDays_68 : decode cX10_calmDays 68 = .ok (.iinc 6 1, 3) := by decide +kernel
theorem dX10_calmDays_71 : decode cX10_calmDays 71 = .ok (.goto (-35), 3) := by decide +kernel
theorem dX10_calmDays_74 : decode cX10_calmDays 74 = .ok (.iload 5, 2) := by decide +kernel
theorem dX10_calmDays_76 : decode cX10_calmDays 76 = .ok (.ireturn, 1) := by decide +kernel
theorem dX10_ahead_0 : decode cX10_ahead 0 = .ok (.iload_n 1, 1) := by decide +kernel
theorem dX10_ahead_1 : decode cX10_ahead 1 = .ok (.iconst 0, 1) := by decide +kernel
theorem dX10_ahead_2 : decode cX10_ahead 2 = .ok (.bipush 99, 2) := by decide +kernel
theorem dX10_ahead_4 : decode cX10_ahead 4 = .ok (.invokestatic 61, 3) := by decide +kernel
theorem dX10_ahead_7 : decode cX10_ahead 7 = .ok (.iload_n 2, 1) := by decide +kernel
theorem dX10_ahead_8 : decode cX10_ahead 8 = .ok (.iconst 0, 1) := by decide +kernel
theorem dX10_ahead_9 : decode cX10_ahead 9 = .ok (.iconst 4, 1) := by decide +kernel
theorem dX10_ahead_10 : decode cX10_ahead 10 = .ok (.invokestatic 61, 3) := by decide +kernel
theorem dX10_ahead_13 : decode cX10_ahead 13 = .ok (.aload_n 0, 1) := by decide +kernel
theorem dX10_ahead_14 : decode cX10_ahead 14 = .ok (.getfield 23, 3) := by decide +kernel
theorem dX10_ahead_17 : decode cX10_ahead 17 = .ok (.aload_n 0, 1) := by decide +kernel
theorem dX10_ahead_18 : decode cX10_ahead 18 = .ok (.getfield 19, 3) := by decide +kernel
theorem dX10_ahead_21 : decode cX10_ahead 21 = .ok (.invokevirtual 83, 3) := by decide +kernel
theorem dX10_ahead_24 : decode cX10_ahead 24 = .ok (.aload_n 0, 1) := by decide +kernel
theorem dX10_ahead_25 : decode cX10_ahead 25 = .ok (.getfield 23, 3) := by decide +kernel
theorem dX10_ahead_28 : decode cX10_ahead 28 = .ok (.iload_n 1, 1) := by decide +kernel
theorem dX10_ahead_29 : decode cX10_ahead 29 = .ok (.invokevirtual 282, 3) := by decide +kernel
theorem dX10_ahead_32 : decode cX10_ahead 32 = .ok (.iload_n 2, 1) := by decide +kernel
theorem dX10_ahead_33 : decode cX10_ahead 33 = .ok (.tableswitch 105 0 3 #[31, 53, 61, 83], 31) := by decide +kernel
theorem dX10_ahead_64 : decode cX10_ahead 64 = .ok (.aload_n 0, 1) := by decide +kernel
theorem dX10_ahead_65 : decode cX10_ahead 65 = .ok (.getfield 23, 3) := by decide +kernel
theorem dX10_ahead_68 : decode cX10_ahead 68 = .ok (.getfield 207, 3) := by decide +kernel
theorem dX10_ahead_71 : decode cX10_ahead 71 = .ok (.getfield 216, 3) := by decide +kernel
theorem dX10_ahead_74 : decode cX10_ahead 74 = .ok (.aload_n 0, 1) := by decide +kernel
theorem dX10_ahead_75 : decode cX10_ahead 75 = .ok (.getfield 19, 3) := by decide +kernel
theorem dX10_ahead_78 : decode cX10_ahead 78 = .ok (.getfield 207, 3) := by decide +kernel
theorem dX10_ahead_81 : decode cX10_ahead 81 = .ok (.getfield 216, 3) := by decide +kernel
theorem dX10_ahead_84 : decode cX10_ahead 84 = .ok (.isub, 1) := by decide +kernel
theorem dX10_ahead_85 : decode cX10_ahead 85 = .ok (.ireturn, 1) := by decide +kernel
theorem dX10_ahead_86 : decode cX10_ahead 86 = .ok (.aload_n 0, 1) := by decide +kernel
theorem dX10_ahead_87 : decode cX10_ahead 87 = .ok (.getfield 23, 3) := by decide +kernel
theorem dX10_ahead_90 : decode cX10_ahead 90 = .ok (.getfield 118, 3) := by decide +kernel
theorem dX10_ahead_93 : decode cX10_ahead 93 = .ok (.ireturn, 1) := by decide +kernel
theorem dX10_ahead_94 : decode cX10_ahead 94 = .ok (.aload_n 0, 1) := by decide +kernel
theorem dX10_ahead_95 : decode cX10_ahead 95 = .ok (.getfield 23, 3) := by decide +kernel
theorem dX10_ahead_98 : decode cX10_ahead 98 = .ok (.getfield 207, 3) := by decide +kernel
theorem dX10_ahead_101 : decode cX10_ahead 101 = .ok (.getfield 223, 3) := by decide +kernel
theorem dX10_ahead_104 : decode cX10_ahead 104 = .ok (.aload_n 0, 1) := by decide +kernel
theorem dX10_ahead_105 : decode cX10_ahead 105 = .ok (.getfield 19, 3) := by decide +kernel
theorem dX10_ahead_108 : decode cX10_ahead 108 = .ok (.getfield 207, 3) := by decide +kernel
theorem dX10_ahead_111 : decode cX10_ahead 111 = .ok (.getfield 223, 3) := by decide +kernel
theorem dX10_ahead_114 : decode cX10_ahead 114 = .ok (.isub, 1) := by decide +kernel
theorem dX10_ahead_115 : decode cX10_ahead 115 = .ok (.ireturn, 1) := by decide +kernel
theorem dX10_ahead_116 : decode cX10_ahead 116 = .ok (.aload_n 0, 1) := by decide +kernel
theorem dX10_ahead_117 : decode cX10_ahead 117 = .ok (.getfield 23, 3) := by decide +kernel
theorem dX10_ahead_120 : decode cX10_ahead 120 = .ok (.getfield 207, 3) := by decide +kernel
theorem dX10_ahead_123 : decode cX10_ahead 123 = .ok (.getfield 226, 3) := by decide +kernel
theorem dX10_ahead_126 : decode cX10_ahead 126 = .ok (.aload_n 0, 1) := by decide +kernel
theorem dX10_ahead_127 : decode cX10_ahead 127 = .ok (.getfield 19, 3) := by decide +kernel
theorem dX10_ahead_130 : decode cX10_ahead 130 = .ok (.getfield 207, 3) := by decide +kernel
theorem dX10_ahead_133 : decode cX10_ahead 133 = .ok (.getfield 226, 3) := by decide +kernel
theorem dX10_ahead_136 : decode cX10_ahead 136 = .ok (.isub, 1) := by decide +kernel
theorem dX10_ahead_137 : decode cX10_ahead 137 = .ok (.ireturn, 1) := by decide +kernel
theorem dX10_ahead_138 : decode cX10_ahead 138 = .ok (.aload_n 0, 1) := by decide +kernel
theorem dX10_ahead_139 : decode cX10_ahead 139 = .ok (.getfield 23, 3) := by decide +kernel
theorem dX10_ahead_142 : decode cX10_ahead 142 = .ok (.getfield 127, 3) := by decide +kernel
theorem dX10_ahead_145 : decode cX10_ahead 145 = .ok (.ireturn, 1) := by decide +kernel
theorem dX10_doneAfter_0 : decode cX10_doneAfter 0 = .ok (.aload_n 0, 1) := by decide +kernel
theorem dX10_doneAfter_1 : decode cX10_doneAfter 1 = .ok (.getfield 19, 3) := by decide +kernel
theorem dX10_doneAfter_4 : decode cX10_doneAfter 4 = .ok (.iload_n 1, 1) := by decide +kernel
theorem dX10_doneAfter_5 : decode cX10_doneAfter 5 = .ok (.invokestatic 149, 3) := by decide +kernel
theorem dX10_doneAfter_8 : decode cX10_doneAfter 8 = .ok (.pop, 1) := by decide +kernel
theorem dX10_doneAfter_9 : decode cX10_doneAfter 9 = .ok (.aload_n 0, 1) := by decide +kernel
theorem dX10_doneAfter_10 : decode cX10_doneAfter 10 = .ok (.getfield 23, 3) := by decide +kernel
theorem dX10_doneAfter_13 : decode cX10_doneAfter 13 = .ok (.aload_n 0, 1) := by decide +kernel
theorem dX10_doneAfter_14 : decode cX10_doneAfter 14 = .ok (.getfield 19, 3) := by decide +kernel
theorem dX10_doneAfter_17 : decode cX10_doneAfter 17 = .ok (.invokevirtual 83, 3) := by decide +kernel
theorem dX10_doneAfter_20 : decode cX10_doneAfter 20 = .ok (.aload_n 0, 1) := by decide +kernel
theorem dX10_doneAfter_21 : decode cX10_doneAfter 21 = .ok (.getfield 23, 3) := by decide +kernel
theorem dX10_doneAfter_24 : decode cX10_doneAfter 24 = .ok (.iload_n 1, 1) := by decide +kernel
theorem dX10_doneAfter_25 : decode cX10_doneAfter 25 = .ok (.invokevirtual 300, 3) := by decide +kernel
theorem dX10_doneAfter_28 : decode cX10_doneAfter 28 = .ok (.ireturn, 1) := by decide +kernel
theorem dX10_bestShip_0 : decode cX10_bestShip 0 = .ok (.bipush (-9), 2) := by decide +kernel
theorem dX10_bestShip_2 : decode cX10_bestShip 2 = .ok (.istore_n 1, 1) := by decide +kernel
theorem dX10_bestShip_3 : decode cX10_bestShip 3 = .ok (.iconst 0, 1) := by decide +kernel
theorem dX10_bestShip_4 : decode cX10_bestShip 4 = .ok (.istore_n 2, 1) := by decide +kernel
theorem dX10_bestShip_5 : decode cX10_bestShip 5 = .ok (.iconst 0, 1) := by decide +kernel
theorem dX10_bestShip_6 : decode cX10_bestShip 6 = .ok (.istore_n 3, 1) := by decide +kernel
theorem dX10_bestShip_7 : decode cX10_bestShip 7 = .ok (.iconst 0, 1) := by decide +kernel
theorem dX10_bestShip_8 : decode cX10_bestShip 8 = .ok (.istore 4, 2) := by decide +kernel
theorem dX10_bestShip_10 : decode cX10_bestShip 10 = .ok (.iload 4, 2) := by decide +kernel
theorem dX10_bestShip_12 : decode cX10_bestShip 12 = .ok (.aload_n 0, 1) := by decide +kernel
theorem dX10_bestShip_13 : decode cX10_bestShip 13 = .ok (.getfield 19, 3) := by decide +kernel
theorem dX10_bestShip_16 : decode cX10_bestShip 16 = .ok (.getfield 101, 3) := by decide +kernel
theorem dX10_bestShip_19 : decode cX10_bestShip 19 = .ok (.if_icmp .ge 98, 3) := by decide +kernel
theorem dX10_bestShip_22 : decode cX10_bestShip 22 = .ok (.aload_n 0, 1) := by decide +kernel
theorem dX10_bestShip_23 : decode cX10_bestShip 23 = .ok (.getfield 23, 3) := by decide +kernel
theorem dX10_bestShip_26 : decode cX10_bestShip 26 = .ok (.aload_n 0, 1) := by decide +kernel
theorem dX10_bestShip_27 : decode cX10_bestShip 27 = .ok (.getfield 19, 3) := by decide +kernel
theorem dX10_bestShip_30 : decode cX10_bestShip 30 = .ok (.invokevirtual 83, 3) := by decide +kernel
theorem dX10_bestShip_33 : decode cX10_bestShip 33 = .ok (.aload_n 0, 1) := by decide +kernel
theorem dX10_bestShip_34 : decode cX10_bestShip 34 = .ok (.getfield 23, 3) := by decide +kernel
theorem dX10_bestShip_37 : decode cX10_bestShip 37 = .ok (.iload 4, 2) := by decide +kernel
theorem dX10_bestShip_39 : decode cX10_bestShip 39 = .ok (.invokevirtual 303, 3) := by decide +kernel
theorem dX10_bestShip_42 : decode cX10_bestShip 42 = .ok (.ifCond .eq 69, 3) := by decide +kernel
theorem dX10_bestShip_45 : decode cX10_bestShip 45 = .ok (.aload_n 0, 1) := by decide +kernel
theorem dX10_bestShip_46 : decode cX10_bestShip 46 = .ok (.getfield 23, 3) := by decide +kernel
theorem dX10_bestShip_49 : decode cX10_bestShip 49 = .ok (.bipush 60, 2) := by decide +kernel
theorem dX10_bestShip_51 : decode cX10_bestShip 51 = .ok (.invokevirtual 282, 3) := by decide +kernel
theorem dX10_bestShip_54 : decode cX10_bestShip 54 = .ok (.aload_n 0, 1) := by decide +kernel
theorem dX10_bestShip_55 : decode cX10_bestShip 55 = .ok (.getfield 23, 3) := by decide +kernel
theorem dX10_bestShip_58 : decode cX10_bestShip 58 = .ok (.getfield 207, 3) := by decide +kernel
theorem dX10_bestShip_61 : decode cX10_bestShip 61 = .ok (.getfield 216, 3) := by decide +kernel
theorem dX10_bestShip_64 : decode cX10_bestShip 64 = .ok (.istore 5, 2) := by decide +kernel
theorem dX10_bestShip_66 : decode cX10_bestShip 66 = .ok (.aload_n 0, 1) := by decide +kernel
theorem dX10_bestShip_67 : decode cX10_bestShip 67 = .ok (.getfield 23, 3) := by decide +kernel
theorem dX10_bestShip_70 : decode cX10_bestShip 70 = .ok (.getfield 207, 3) := by decide +kernel
theorem dX10_bestShip_73 : decode cX10_bestShip 73 = .ok (.getfield 223, 3) := by decide +kernel
theorem dX10_bestShip_76 : decode cX10_bestShip 76 = .ok (.istore 6, 2) := by decide +kernel
theorem dX10_bestShip_78 : decode cX10_bestShip 78 = .ok (.iload_n 1, 1) := by decide +kernel
theorem dX10_bestShip_79 : decode cX10_bestShip 79 = .ok (.bipush (-9), 2) := by decide +kernel
theorem dX10_bestShip_81 : decode cX10_bestShip 81 = .ok (.if_icmp .eq 21, 3) := by decide +kernel
theorem dX10_bestShip_84 : decode cX10_bestShip 84 = .ok (.iload 5, 2) := by decide +kernel
theorem dX10_bestShip_86 : decode cX10_bestShip 86 = .ok (.iload_n 2, 1) := by decide +kernel
theorem dX10_bestShip_87 : decode cX10_bestShip 87 = .ok (.if_icmp .gt 15, 3) := by decide +kernel
theorem dX10_bestShip_90 : decode cX10_bestShip 90 = .ok (.iload 5, 2) := by decide +kernel
theorem dX10_bestShip_92 : decode cX10_bestShip 92 = .ok (.iload_n 2, 1) := by decide +kernel
theorem dX10_bestShip_93 : decode cX10_bestShip 93 = .ok (.if_icmp .ne 18, 3) := by decide +kernel
theorem dX10_bestShip_96 : decode cX10_bestShip 96 = .ok (.iload 6, 2) := by decide +kernel
theorem dX10_bestShip_98 : decode cX10_bestShip 98 = .ok (.iload_n 3, 1) := by decide +kernel
theorem dX10_bestShip_99 : decode cX10_bestShip 99 = .ok (.if_icmp .ge 12, 3) := by decide +kernel
theorem dX10_bestShip_102 : decode cX10_bestShip 102 = .ok (.iload 4, 2) := by decide +kernel
theorem dX10_bestShip_104 : decode cX10_bestShip 104 = .ok (.istore_n 1, 1) := by decide +kernel
theorem dX10_bestShip_105 : decode cX10_bestShip 105 = .ok (.iload 5, 2) := by decide +kernel
theorem dX10_bestShip_107 : decode cX10_bestShip 107 = .ok (.istore_n 2, 1) := by decide +kernel
theorem dX10_bestShip_108 : decode cX10_bestShip 108 = .ok (.iload 6, 2) := by decide +kernel
theorem dX10_bestShip_110 : decode cX10_bestShip 110 = .ok (.istore_n 3, 1) := by decide +kernel
theorem dX10_bestShip_111 : decode cX10_bestShip 111 = .ok (.iinc 4 1, 3) := by decide +kernel
theorem dX10_bestShip_114 : decode cX10_bestShip 114 = .ok (.goto (-104), 3) := by decide +kernel
theorem dX10_bestShip_117 : decode cX10_bestShip 117 = .ok (.iload_n 1, 1) := by decide +kernel
theorem dX10_bestShip_118 : decode cX10_bestShip 118 = .ok (.ireturn, 1) := by decide +kernel
theorem dX10_extension_0 : decode cX10_extension 0 = .ok (.aload_n 0, 1) := by decide +kernel
theorem dX10_extension_1 : decode cX10_extension 1 = .ok (.getfield 23, 3) := by decide +kernel
theorem dX10_extension_4 : decode cX10_extension 4 = .ok (.aload_n 0, 1) := by decide +kernel
theorem dX10_extension_5 : decode cX10_extension 5 = .ok (.getfield 19, 3) := by decide +kernel
theorem dX10_extension_8 : decode cX10_extension 8 = .ok (.invokevirtual 83, 3) := by decide +kernel
theorem dX10_extension_11 : decode cX10_extension 11 = .ok (.aload_n 0, 1) := by decide +kernel
theorem dX10_extension_12 : decode cX10_extension 12 = .ok (.getfield 23, 3) := by decide +kernel
theorem dX10_extension_15 : decode cX10_extension 15 = .ok (.iload_n 1, 1) := by decide +kernel
theorem dX10_extension_16 : decode cX10_extension 16 = .ok (.invokestatic 149, 3) := by decide +kernel
theorem dX10_extension_19 : decode cX10_extension 19 = .ok (.astore_n 2, 1) := by decide +kernel
theorem dX10_extension_20 : decode cX10_extension 20 = .ok (.aload_n 2, 1) := by decide +kernel
theorem dX10_extension_21 : decode cX10_extension 21 = .ok (.getfield 161, 3) := by decide +kernel
theorem dX10_extension_24 : decode cX10_extension 24 = .ok (.istore_n 3, 1) := by decide +kernel
theorem dX10_extension_25 : decode cX10_extension 25 = .ok (.aload_n 2, 1) := by decide +kernel
theorem dX10_extension_26 : decode cX10_extension 26 = .ok (.iload_n 3, 1) := by decide +kernel
theorem dX10_extension_27 : decode cX10_extension 27 = .ok (.bipush 99, 2) := by decide +kernel
theorem dX10_extension_29 : decode cX10_extension 29 = .ok (.iadd, 1) := by decide +kernel
theorem dX10_extension_30 : decode cX10_extension 30 = .ok (.sipush 999, 3) := by decide +kernel
theorem dX10_extension_33 : decode cX10_extension 33 = .ok (.invokestatic 306, 3) := by decide +kernel
theorem dX10_extension_36 : decode cX10_extension 36 = .ok (.putfield 161, 3) := by decide +kernel
theorem dX10_extension_39 : decode cX10_extension 39 = .ok (.aload_n 0, 1) := by decide +kernel
theorem dX10_extension_40 : decode cX10_extension 40 = .ok (.getfield 23, 3) := by decide +kernel
theorem dX10_extension_43 : decode cX10_extension 43 = .ok (.iload_n 1, 1) := by decide +kernel
theorem dX10_extension_44 : decode cX10_extension 44 = .ok (.invokevirtual 300, 3) := by decide +kernel
theorem dX10_extension_47 : decode cX10_extension 47 = .ok (.istore 4, 2) := by decide +kernel
theorem dX10_extension_49 : decode cX10_extension 49 = .ok (.iload 4, 2) := by decide +kernel
theorem dX10_extension_51 : decode cX10_extension 51 = .ok (.bipush (-9), 2) := by decide +kernel
theorem dX10_extension_53 : decode cX10_extension 53 = .ok (.if_icmp .ne 6, 3) := by decide +kernel
theorem dX10_extension_56 : decode cX10_extension 56 = .ok (.bipush (-9), 2) := by decide +kernel
theorem dX10_extension_58 : decode cX10_extension 58 = .ok (.ireturn, 1) := by decide +kernel
theorem dX10_extension_59 : decode cX10_extension 59 = .ok (.iload 4, 2) := by decide +kernel
theorem dX10_extension_61 : decode cX10_extension 61 = .ok (.ifCond .ne 7, 3) := by decide +kernel
theorem dX10_extension_64 : decode cX10_extension 64 = .ok (.iconst 0, 1) := by decide +kernel
theorem dX10_extension_65 : decode cX10_extension 65 = .ok (.goto 18, 3) := by decide +kernel
theorem dX10_extension_68 : decode cX10_extension 68 = .ok (.iconst 0, 1) := by decide +kernel
theorem dX10_extension_69 : decode cX10_extension 69 = .ok (.aload_n 0, 1) := by decide +kernel
theorem dX10_extension_70 : decode cX10_extension 70 = .ok (.getfield 23, 3) := by decide +kernel
theorem dX10_extension_73 : decode cX10_extension 73 = .ok (.getfield 115, 3) := by decide +kernel
theorem dX10_extension_76 : decode cX10_extension 76 = .ok (.iconst 1, 1) := by decide +kernel
theorem dX10_extension_77 : decode cX10_extension 77 = .ok (.isub, 1) := by decide +kernel
theorem dX10_extension_78 : decode cX10_extension 78 = .ok (.iload_n 3, 1) := by decide +kernel
theorem dX10_extension_79 : decode cX10_extension 79 = .ok (.isub, 1) := by decide +kernel
theorem dX10_extension_80 : decode cX10_extension 80 = .ok (.invokestatic 295, 3) := by decide +kernel
theorem dX10_extension_83 : decode cX10_extension 83 = .ok (.ireturn, 1) := by decide +kernel
theorem dX10_runScript_0 : decode cX10_runScript 0 = .ok (.iload_n 1, 1) := by decide +kernel
theorem dX10_runScript_1 : decode cX10_runScript 1 = .ok (.iconst 1, 1) := by decide +kernel
theorem dX10_runScript_2 : decode cX10_runScript 2 = .ok (.iconst 3, 1) := by decide +kernel
theorem dX10_runScript_3 : decode cX10_runScript 3 = .ok (.invokestatic 61, 3) := by decide +kernel
theorem dX10_runScript_6 : decode cX10_runScript 6 = .ok (.lload_n 2, 1) := by decide +kernel
theorem dX10_runScript_7 : decode cX10_runScript 7 = .ok (.lconst 0, 1) := by decide +kernel
theorem dX10_runScript_8 : decode cX10_runScript 8 = .ok (.lcmp, 1) := by decide +kernel
theorem dX10_runScript_9 : decode cX10_runScript 9 = .ok (.ifCond .lt 13, 3) := by decide +kernel
theorem dX10_runScript_12 : decode cX10_runScript 12 = .ok (.lload_n 2, 1) := by decide +kernel
theorem dX10_runScript_13 : decode cX10_runScript 13 = .ok (.iload_n 1, 1) := by decide +kernel
theorem dX10_runScript_14 : decode cX10_runScript 14 = .ok (.invokestatic 309, 3) := by decide +kernel
theorem dX10_runScript_17 : decode cX10_runScript 17 = .ok (.lconst 0, 1) := by decide +kernel
theorem dX10_runScript_18 : decode cX10_runScript 18 = .ok (.lcmp, 1) := by decide +kernel
theorem dX10_runScript_19 : decode cX10_runScript 19 = .ok (.ifCond .le 14, 3) := by decide +kernel
theorem dX10_runScript_22 : decode cX10_runScript 22 = .ok (.new 142, 3) := by decide +kernel
theorem dX10_runScript_25 : decode cX10_runScript 25 = .ok (.dup, 1) := by decide +kernel
theorem dX10_runScript_26 : decode cX10_runScript 26 = .ok (.ldc_w 315, 3) := by decide +kernel
theorem dX10_runScript_29 : decode cX10_runScript 29 = .ok (.invokespecial 146, 3) := by decide +kernel
theorem dX10_runScript_32 : decode cX10_runScript 32 = .ok (.athrow, 1) := by decide +kernel
theorem dX10_runScript_33 : decode cX10_runScript 33 = .ok (.aload_n 0, 1) := by decide +kernel
theorem dX10_runScript_34 : decode cX10_runScript 34 = .ok (.getfield 23, 3) := by decide +kernel
theorem dX10_runScript_37 : decode cX10_runScript 37 = .ok (.aload_n 0, 1) := by decide +kernel
theorem dX10_runScript_38 : decode cX10_runScript 38 = .ok (.getfield 19, 3) := by decide +kernel
theorem dX10_runScript_41 : decode cX10_runScript 41 = .ok (.invokevirtual 83, 3) := by decide +kernel
theorem dX10_runScript_44 : decode cX10_runScript 44 = .ok (.iconst 0, 1) := by decide +kernel
theorem dX10_runScript_45 : decode cX10_runScript 45 = .ok (.istore 4, 2) := by decide +kernel
theorem dX10_runScript_47 : decode cX10_runScript 47 = .ok (.iload 4, 2) := by decide +kernel
theorem dX10_runScript_49 : decode cX10_runScript 49 = .ok (.iload_n 1, 1) := by decide +kernel
theorem dX10_runScript_50 : decode cX10_runScript 50 = .ok (.if_icmp .ge 41, 3) := by decide +kernel
theorem dX10_runScript_53 : decode cX10_runScript 53 = .ok (.lload_n 2, 1) := by decide +kernel
theorem dX10_runScript_54 : decode cX10_runScript 54 = .ok (.iload_n 1, 1) := by decide +kernel
theorem dX10_runScript_55 : decode cX10_runScript 55 = .ok (.iconst 1, 1) := by decide +kernel
theorem dX10_runScript_56 : decode cX10_runScript 56 = .ok (.isub, 1) := by decide +kernel
theorem dX10_runScript_57 : decode cX10_runScript 57 = .ok (.iload 4, 2) := by decide +kernel
theorem dX10_runScript_59 : decode cX10_runScript 59 = .ok (.isub, 1) := by decide +kernel
theorem dX10_runScript_60 : decode cX10_runScript 60 = .ok (.invokestatic 309, 3) := by decide +kernel
theorem dX10_runScript_63 : decode cX10_runScript 63 = .ok (.ldc2_w 317, 3) := by decide +kernel
theorem dX10_runScript_66 : decode cX10_runScript 66 = .ok (.lrem, 1) := by decide +kernel
theorem dX10_runScript_67 : decode cX10_runScript 67 = .ok (.l2i, 1) := by decide +kernel
theorem dX10_runScript_68 : decode cX10_runScript 68 = .ok (.istore 5, 2) := by decide +kernel
theorem dX10_runScript_70 : decode cX10_runScript 70 = .ok (.aload_n 0, 1) := by decide +kernel
theorem dX10_runScript_71 : decode cX10_runScript 71 = .ok (.getfield 23, 3) := by decide +kernel
theorem dX10_runScript_74 : decode cX10_runScript 74 = .ok (.iload 5, 2) := by decide +kernel
theorem dX10_runScript_76 : decode cX10_runScript 76 = .ok (.invokestatic 319, 3) := by decide +kernel
theorem dX10_runScript_79 : decode cX10_runScript 79 = .ok (.ifCond .ne 6, 3) := by decide +kernel
theorem dX10_runScript_82 : decode cX10_runScript 82 = .ok (.iload 4, 2) := by decide +kernel
theorem dX10_runScript_84 : decode cX10_runScript 84 = .ok (.ireturn, 1) := by decide +kernel
theorem dX10_runScript_85 : decode cX10_runScript 85 = .ok (.iinc 4 1, 3) := by decide +kernel
theorem dX10_runScript_88 : decode cX10_runScript 88 = .ok (.goto (-41), 3) := by decide +kernel
theorem dX10_runScript_91 : decode cX10_runScript 91 = .ok (.bipush (-9), 2) := by decide +kernel
theorem dX10_runScript_93 : decode cX10_runScript 93 = .ok (.ireturn, 1) := by decide +kernel
theorem dX10_simulate_0 : decode cX10_simulate 0 = .ok (.iload_n 3, 1) := by decide +kernel
theorem dX10_simulate_1 : decode cX10_simulate 1 = .ok (.iconst 1, 1) := by decide +kernel
theorem dX10_simulate_2 : decode cX10_simulate 2 = .ok (.bipush 99, 2) := by decide +kernel
theorem dX10_simulate_4 : decode cX10_simulate 4 = .ok (.invokestatic 61, 3) := by decide +kernel
theorem dX10_simulate_7 : decode cX10_simulate 7 = .ok (.aload_n 0, 1) := by decide +kernel
theorem dX10_simulate_8 : decode cX10_simulate 8 = .ok (.getfield 23, 3) := by decide +kernel
theorem dX10_simulate_11 : decode cX10_simulate 11 = .ok (.aload_n 0, 1) := by decide +kernel
theorem dX10_simulate_12 : decode cX10_simulate 12 = .ok (.getfield 19, 3) := by decide +kernel
theorem dX10_simulate_15 : decode cX10_simulate 15 = .ok (.invokevirtual 83, 3) := by decide +kernel
theorem dX10_simulate_18 : decode cX10_simulate 18 = .ok (.lload_n 1, 1) := by decide +kernel
theorem dX10_simulate_19 : decode cX10_simulate 19 = .ok (.lstore 4, 2) := by decide +kernel
theorem dX10_simulate_21 : decode cX10_simulate 21 = .ok (.iconst 0, 1) := by decide +kernel
theorem dX10_simulate_22 : decode cX10_simulate 22 = .ok (.istore 6, 2) := by decide +kernel
theorem dX10_simulate_24 : decode cX10_simulate 24 = .ok (.iload 6, 2) := by decide +kernel
theorem dX10_simulate_26 : decode cX10_simulate 26 = .ok (.iload_n 3, 1) := by decide +kernel
theorem dX10_simulate_27 : decode cX10_simulate 27 = .ok (.if_icmp .ge 34, 3) := by decide +kernel
theorem dX10_simulate_30 : decode cX10_simulate 30 = .ok (.lload 4, 2) := by decide +kernel
theorem dX10_simulate_32 : decode cX10_simulate 32 = .ok (.ldc2_w 323, 3) := by decide +kernel
theorem dX10_simulate_35 : decode cX10_simulate 35 = .ok (.lmul, 1) := by decide +kernel
theorem dX10_simulate_36 : decode cX10_simulate 36 = .ok (.ldc2_w 325, 3) := by decide +kernel
theorem dX10_simulate_39 : decode cX10_simulate 39 = .ok (.ladd, 1) := by decide +kernel
theorem dX10_simulate_40 : decode cX10_simulate 40 = .ok (.lstore 4, 2) := by decide +kernel
theorem dX10_simulate_42 : decode cX10_simulate 42 = .ok (.aload_n 0, 1) := by decide +kernel
theorem dX10_simulate_43 : decode cX10_simulate 43 = .ok (.getfield 23, 3) := by decide +kernel
theorem dX10_simulate_46 : decode cX10_simulate 46 = .ok (.lload 4, 2) := by decide +kernel
theorem dX10_simulate_48 : decode cX10_simulate 48 = .ok (.bipush 33, 2) := by decide +kernel
theorem dX10_simulate_50 : decode cX10_simulate 50 = .ok (.lushr, 1) := by decide +kernel
theorem dX10_simulate_51 : decode cX10_simulate 51 = .ok (.l2i, 1) := by decide +kernel
theorem dX10_simulate_52 : decode cX10_simulate 52 = .ok (.invokevirtual 327, 3) := by decide +kernel
theorem dX10_simulate_55 : decode cX10_simulate 55 = .ok (.iinc 6 1, 3) := by decide +kernel
theorem dX10_simulate_58 : decode cX10_simulate 58 = .ok (.goto (-34), 3) := by decide +kernel
theorem dX10_simulate_61 : decode cX10_simulate 61 = .ok (.sipush 1000, 3) := by decide +kernel
theorem dX10_simulate_64 : decode cX10_simulate 64 = .ok (.aload_n 0, 1) := by decide +kernel
theorem dX10_simulate_65 : decode cX10_simulate 65 = .ok (.getfield 23, 3) := by decide +kernel
theorem dX10_simulate_68 : decode cX10_simulate 68 = .ok (.getfield 207, 3) := by decide +kernel
theorem dX10_simulate_71 : decode cX10_simulate 71 = .ok (.getfield 216, 3) := by decide +kernel
theorem dX10_simulate_74 : decode cX10_simulate 74 = .ok (.aload_n 0, 1) := by decide +kernel
theorem dX10_simulate_75 : decode cX10_simulate 75 = .ok (.getfield 19, 3) := by decide +kernel
theorem dX10_simulate_78 : decode cX10_simulate 78 = .ok (.getfield 207, 3) := by decide +kernel
theorem dX10_simulate_81 : decode cX10_simulate 81 = .ok (.getfield 216, 3) := by decide +kernel
theorem dX10_simulate_84 : decode cX10_simulate 84 = .ok (.isub, 1) := by decide +kernel
theorem dX10_simulate_85 : decode cX10_simulate 85 = .ok (.imul, 1) := by decide +kernel
theorem dX10_simulate_86 : decode cX10_simulate 86 = .ok (.aload_n 0, 1) := by decide +kernel
theorem dX10_simulate_87 : decode cX10_simulate 87 = .ok (.getfield 23, 3) := by decide +kernel
theorem dX10_simulate_90 : decode cX10_simulate 90 = .ok (.getfield 115, 3) := by decide +kernel
theorem dX10_simulate_93 : decode cX10_simulate 93 = .ok (.iadd, 1) := by decide +kernel
theorem dX10_simulate_94 : decode cX10_simulate 94 = .ok (.ireturn, 1) := by decide +kernel
theorem dX10_save_0 : decode cX10_save 0 = .ok (.aload_n 0, 1) := by decide +kernel
theorem dX10_save_1 : decode cX10_save 1 = .ok (.iload_n 1, 1) := by decide +kernel
theorem dX10_save_2 : decode cX10_save 2 = .ok (.invokevirtual 330, 3) := by decide +kernel
theorem dX10_save_5 : decode cX10_save 5 = .ok (.astore_n 2, 1) := by decide +kernel
theorem dX10_save_6 : decode cX10_save 6 = .ok (.aload_n 2, 1) := by decide +kernel
theorem dX10_save_7 : decode cX10_save 7 = .ok (.getfield 334, 3) := by decide +kernel
theorem dX10_save_10 : decode cX10_save 10 = .ok (.aload_n 0, 1) := by decide +kernel
theorem dX10_save_11 : decode cX10_save 11 = .ok (.getfield 19, 3) := by decide +kernel
theorem dX10_save_14 : decode cX10_save 14 = .ok (.invokevirtual 83, 3) := by decide +kernel
theorem dX10_save_17 : decode cX10_save 17 = .ok (.aload_n 2, 1) := by decide +kernel
theorem dX10_save_18 : decode cX10_save 18 = .ok (.iconst 1, 1) := by decide +kernel
theorem dX10_save_19 : decode cX10_save 19 = .ok (.putfield 89, 3) := by decide +kernel
theorem dX10_save_22 : decode cX10_save 22 = .ok (.aload_n 0, 1) := by decide +kernel
theorem dX10_save_23 : decode cX10_save 23 = .ok (.getfield 19, 3) := by decide +kernel
theorem dX10_save_26 : decode cX10_save 26 = .ok (.getfield 115, 3) := by decide +kernel
theorem dX10_save_29 : decode cX10_save 29 = .ok (.ireturn, 1) := by decide +kernel
theorem dX10_restore_0 : decode cX10_restore 0 = .ok (.aload_n 0, 1) := by decide +kernel
theorem dX10_restore_1 : decode cX10_restore 1 = .ok (.iload_n 1, 1) := by decide +kernel
theorem dX10_restore_2 : decode cX10_restore 2 = .ok (.invokevirtual 330, 3) := by decide +kernel
theorem dX10_restore_5 : decode cX10_restore 5 = .ok (.astore_n 2, 1) := by decide +kernel
theorem dX10_restore_6 : decode cX10_restore 6 = .ok (.aload_n 2, 1) := by decide +kernel
theorem dX10_restore_7 : decode cX10_restore 7 = .ok (.getfield 89, 3) := by decide +kernel
theorem dX10_restore_10 : decode cX10_restore 10 = .ok (.invokestatic 68, 3) := by decide +kernel
theorem dX10_restore_13 : decode cX10_restore 13 = .ok (.aload_n 0, 1) := by decide +kernel
theorem dX10_restore_14 : decode cX10_restore 14 = .ok (.getfield 19, 3) := by decide +kernel
theorem dX10_restore_17 : decode cX10_restore 17 = .ok (.aload_n 2, 1) := by decide +kernel
theorem dX10_restore_18 : decode cX10_restore 18 = .ok (.getfield 334, 3) := by decide +kernel
theorem dX10_restore_21 : decode cX10_restore 21 = .ok (.invokevirtual 83, 3) := by decide +kernel
theorem dX10_restore_24 : decode cX10_restore 24 = .ok (.aload_n 0, 1) := by decide +kernel
theorem dX10_restore_25 : decode cX10_restore 25 = .ok (.getfield 29, 3) := by decide +kernel
theorem dX10_restore_28 : decode cX10_restore 28 = .ok (.invokevirtual 87, 3) := by decide +kernel
theorem dX10_restore_31 : decode cX10_restore 31 = .ok (.aload_n 0, 1) := by decide +kernel
theorem dX10_restore_32 : decode cX10_restore 32 = .ok (.getfield 19, 3) := by decide +kernel
theorem dX10_restore_35 : decode cX10_restore 35 = .ok (.getfield 115, 3) := by decide +kernel
theorem dX10_restore_38 : decode cX10_restore 38 = .ok (.ireturn, 1) := by decide +kernel
theorem dX10_requireRange_0 : decode cX10_requireRange 0 = .ok (.iload_n 0, 1) := by decide +kernel
theorem dX10_requireRange_1 : decode cX10_requireRange 1 = .ok (.iload_n 1, 1) := by decide +kernel
theorem dX10_requireRange_2 : decode cX10_requireRange 2 = .ok (.if_icmp .lt 8, 3) := by decide +kernel
theorem dX10_requireRange_5 : decode cX10_requireRange 5 = .ok (.iload_n 0, 1) := by decide +kernel
theorem dX10_requireRange_6 : decode cX10_requireRange 6 = .ok (.iload_n 2, 1) := by decide +kernel
theorem dX10_requireRange_7 : decode cX10_requireRange 7 = .ok (.if_icmp .le 14, 3) := by decide +kernel
theorem dX10_requireRange_10 : decode cX10_requireRange 10 = .ok (.new 142, 3) := by decide +kernel
theorem dX10_requireRange_13 : decode cX10_requireRange 13 = .ok (.dup, 1) := by decide +kernel
theorem dX10_requireRange_14 : decode cX10_requireRange 14 = .ok (.ldc_w 337, 3) := by decide +kernel
theorem dX10_requireRange_17 : decode cX10_requireRange 17 = .ok (.invokespecial 146, 3) := by decide +kernel
theorem dX10_requireRange_20 : decode cX10_requireRange 20 = .ok (.athrow, 1) := by decide +kernel
theorem dX10_requireRange_21 : decode cX10_requireRange 21 = .ok (.return_, 1) := by decide +kernel
theorem dX10_require_0 : decode cX10_require 0 = .ok (.iload_n 0, 1) := by decide +kernel
theorem dX10_require_1 : decode cX10_require 1 = .ok (.ifCond .ne 14, 3) := by decide +kernel
theorem dX10_require_4 : decode cX10_require 4 = .ok (.new 339, 3) := by decide +kernel
theorem dX10_require_7 : decode cX10_require 7 = .ok (.dup, 1) := by decide +kernel
theorem dX10_require_8 : decode cX10_require 8 = .ok (.ldc_w 341, 3) := by decide +kernel
theorem dX10_require_11 : decode cX10_require 11 = .ok (.invokespecial 343, 3) := by decide +kernel
theorem dX10_require_14 : decode cX10_require 14 = .ok (.athrow, 1) := by decide +kernel
theorem dX10_require_15 : decode cX10_require 15 = .ok (.return_, 1) := by decide +kernel
theorem dX10_existingZone_0 : decode cX10_existingZone 0 = .ok (.aload_n 0, 1) := by decide +kernel
theorem dX10_existingZone_1 : decode cX10_existingZone 1 = .ok (.iload_n 1, 1) := by decide +kernel
theorem dX10_existingZone_2 : decode cX10_existingZone 2 = .ok (.invokevirtual 344, 3) := by decide +kernel
theorem dX10_existingZone_5 : decode cX10_existingZone 5 = .ok (.astore_n 2, 1) := by decide +kernel
theorem dX10_existingZone_6 : decode cX10_existingZone 6 = .ok (.aload_n 2, 1) := by decide +kernel
theorem dX10_existingZone_7 : decode cX10_existingZone 7 = .ok (.ifnonnull 14, 3) := by decide +kernel
theorem dX10_existingZone_10 : decode cX10_existingZone 10 = .ok (.new 348, 3) := by decide +kernel
theorem dX10_existingZone_13 : decode cX10_existingZone 13 = .ok (.dup, 1) := by decide +kernel
theorem dX10_existingZone_14 : decode cX10_existingZone 14 = .ok (.ldc_w 350, 3) := by decide +kernel
theorem dX10_existingZone_17 : decode cX10_existingZone 17 = .ok (.invokespecial 352, 3) := by decide +kernel
theorem dX10_existingZone_20 : decode cX10_existingZone 20 = .ok (.athrow, 1) := by decide +kernel
theorem dX10_existingZone_21 : decode cX10_existingZone 21 = .ok (.aload_n 2, 1) := by decide +kernel
theorem dX10_existingZone_22 : decode cX10_existingZone 22 = .ok (.areturn, 1) := by decide +kernel
theorem dX10_existingShip_0 : decode cX10_existingShip 0 = .ok (.aload_n 0, 1) := by decide +kernel
theorem dX10_existingShip_1 : decode cX10_existingShip 1 = .ok (.getfield 19, 3) := by decide +kernel
theorem dX10_existingShip_4 : decode cX10_existingShip 4 = .ok (.iload_n 1, 1) := by decide +kernel
theorem dX10_existingShip_5 : decode cX10_existingShip 5 = .ok (.invokevirtual 353, 3) := by decide +kernel
theorem dX10_existingShip_8 : decode cX10_existingShip 8 = .ok (.astore_n 2, 1) := by decide +kernel
theorem dX10_existingShip_9 : decode cX10_existingShip 9 = .ok (.aload_n 2, 1) := by decide +kernel
theorem dX10_existingShip_10 : decode cX10_existingShip 10 = .ok (.ifnonnull 14, 3) := by decide +kernel
theorem dX10_existingShip_13 : decode cX10_existingShip 13 = .ok (.new 348, 3) := by decide +kernel
theorem dX10_existingShip_16 : decode cX10_existingShip 16 = .ok (.dup, 1) := by decide +kernel
theorem dX10_existingShip_17 : decode cX10_existingShip 17 = .ok (.ldc_w 356, 3) := by decide +kernel
theorem dX10_existingShip_20 : decode cX10_existingShip 20 = .ok (.invokespecial 352, 3) := by decide +kernel
theorem dX10_existingShip_23 : decode cX10_existingShip 23 = .ok (.athrow, 1) := by decide +kernel
theorem dX10_existingShip_24 : decode cX10_existingShip 24 = .ok (.aload_n 2, 1) := by decide +kernel
theorem dX10_existingShip_25 : decode cX10_existingShip 25 = .ok (.areturn, 1) := by decide +kernel
theorem dX10_existingSlot_0 : decode cX10_existingSlot 0 = .ok (.iload_n 1, 1) := by decide +kernel
theorem dX10_existingSlot_1 : decode cX10_existingSlot 1 = .ok (.ifCond .lt 12, 3) := by decide +kernel
theorem dX10_existingSlot_4 : decode cX10_existingSlot 4 = .ok (.iload_n 1, 1) := by decide +kernel
theorem dX10_existingSlot_5 : decode cX10_existingSlot 5 = .ok (.aload_n 0, 1) := by decide +kernel
theorem dX10_existingSlot_6 : decode cX10_existingSlot 6 = .ok (.getfield 35, 3) := by decide +kernel
theorem dX10_existingSlot_9 : decode cX10_existingSlot 9 = .ok (.arraylength, 1) := by decide +kernel
theorem dX10_existingSlot_10 : decode cX10_existingSlot 10 = .ok (.if_icmp .lt 14, 3) := by decide +kernel
theorem dX10_existingSlot_13 : decode cX10_existingSlot 13 = .ok (.new 348, 3) := by decide +kernel
theorem dX10_existingSlot_16 : decode cX10_existingSlot 16 = .ok (.dup, 1) := by decide +kernel
theorem dX10_existingSlot_17 : decode cX10_existingSlot 17 = .ok (.ldc_w 358, 3) := by decide +kernel
theorem dX10_existingSlot_20 : decode cX10_existingSlot 20 = .ok (.invokespecial 352, 3) := by decide +kernel
theorem dX10_existingSlot_23 : decode cX10_existingSlot 23 = .ok (.athrow, 1) := by decide +kernel
theorem dX10_existingSlot_24 : decode cX10_existingSlot 24 = .ok (.aload_n 0, 1) := by decide +kernel
theorem dX10_existingSlot_25 : decode cX10_existingSlot 25 = .ok (.getfield 35, 3) := by decide +kernel
theorem dX10_existingSlot_28 : decode cX10_existingSlot 28 = .ok (.iload_n 1, 1) := by decide +kernel
theorem dX10_existingSlot_29 : decode cX10_existingSlot 29 = .ok (.aaload, 1) := by decide +kernel
theorem dX10_existingSlot_30 : decode cX10_existingSlot 30 = .ok (.areturn, 1) := by decide +kernel
