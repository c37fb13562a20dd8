theorem dX11_init_0 : decode cX11_init 0 = .ok (.aload_n 0, 1) := by decide +kernel
theorem dX11_init_1 : decode cX11_init 1 = .ok (.invokespecial 1, 3) := by decide +kernel
theorem dX11_init_4 : decode cX11_init 4 = .ok (.aload_n 0, 1) := by decide +kernel
theorem dX11_init_5 : decode cX11_init 5 = .ok (.sipush 160, 3) := by decide +kernel
theorem dX11_init_8 : decode cX11_init 8 = .ok (.newarray .int, 2) := by decide +kernel
theorem dX11_init_10 : decode cX11_init 10 = .ok (.putfield 7, 3) := by decide +kernel
theorem dX11_init_13 : decode cX11_init 13 = .ok (.aload_n 0, 1) := by decide +kernel
theorem dX11_init_14 : decode cX11_init 14 = .ok (.bipush 121, 2) := by decide +kernel
theorem dX11_init_16 : decode cX11_init 16 = .ok (.newarray .int, 2) := by decide +kernel
theorem dX11_init_18 : decode cX11_init 18 = .ok (.putfield 13, 3) := by decide +kernel
theorem dX11_init_21 : decode cX11_init 21 = .ok (.aload_n 0, 1) := by decide +kernel
theorem dX11_init_22 : decode cX11_init 22 = .ok (.bipush 121, 2) := by decide +kernel
theorem dX11_init_24 : decode cX11_init 24 = .ok (.newarray .int, 2) := by decide +kernel
theorem dX11_init_26 : decode cX11_init 26 = .ok (.putfield 16, 3) := by decide +kernel
theorem dX11_init_29 : decode cX11_init 29 = .ok (.aload_n 0, 1) := by decide +kernel
theorem dX11_init_30 : decode cX11_init 30 = .ok (.bipush 121, 2) := by decide +kernel
theorem dX11_init_32 : decode cX11_init 32 = .ok (.newarray .int, 2) := by decide +kernel
theorem dX11_init_34 : decode cX11_init 34 = .ok (.putfield 19, 3) := by decide +kernel
theorem dX11_init_37 : decode cX11_init 37 = .ok (.aload_n 0, 1) := by decide +kernel
theorem dX11_init_38 : decode cX11_init 38 = .ok (.sipush 1694, 3) := by decide +kernel
theorem dX11_init_41 : decode cX11_init 41 = .ok (.newarray .int, 2) := by decide +kernel
theorem dX11_init_43 : decode cX11_init 43 = .ok (.putfield 22, 3) := by decide +kernel
theorem dX11_init_46 : decode cX11_init 46 = .ok (.aload_n 0, 1) := by decide +kernel
theorem dX11_init_47 : decode cX11_init 47 = .ok (.sipush 242, 3) := by decide +kernel
theorem dX11_init_50 : decode cX11_init 50 = .ok (.newarray .int, 2) := by decide +kernel
theorem dX11_init_52 : decode cX11_init 52 = .ok (.putfield 25, 3) := by decide +kernel
theorem dX11_init_55 : decode cX11_init 55 = .ok (.aload_n 0, 1) := by decide +kernel
theorem dX11_init_56 : decode cX11_init 56 = .ok (.iconst 2, 1) := by decide +kernel
theorem dX11_init_57 : decode cX11_init 57 = .ok (.newarray .boolean, 2) := by decide +kernel
theorem dX11_init_59 : decode cX11_init 59 = .ok (.putfield 28, 3) := by decide +kernel
theorem dX11_init_62 : decode cX11_init 62 = .ok (.aload_n 0, 1) := by decide +kernel
theorem dX11_init_63 : decode cX11_init 63 = .ok (.getfield 16, 3) := by decide +kernel
theorem dX11_init_66 : decode cX11_init 66 = .ok (.iconst 0, 1) := by decide +kernel
theorem dX11_init_67 : decode cX11_init 67 = .ok (.iconst 1, 1) := by decide +kernel
theorem dX11_init_68 : decode cX11_init 68 = .ok (.iastore, 1) := by decide +kernel
theorem dX11_init_69 : decode cX11_init 69 = .ok (.aload_n 0, 1) := by decide +kernel
theorem dX11_init_70 : decode cX11_init 70 = .ok (.getfield 16, 3) := by decide +kernel
theorem dX11_init_73 : decode cX11_init 73 = .ok (.iconst 1, 1) := by decide +kernel
theorem dX11_init_74 : decode cX11_init 74 = .ok (.iconst 2, 1) := by decide +kernel
theorem dX11_init_75 : decode cX11_init 75 = .ok (.iastore, 1) := by decide +kernel
theorem dX11_init_76 : decode cX11_init 76 = .ok (.aload_n 0, 1) := by decide +kernel
theorem dX11_init_77 : decode cX11_init 77 = .ok (.getfield 16, 3) := by decide +kernel
theorem dX11_init_80 : decode cX11_init 80 = .ok (.iconst 2, 1) := by decide +kernel
theorem dX11_init_81 : decode cX11_init 81 = .ok (.sipush 200, 3) := by decide +kernel
theorem dX11_init_84 : decode cX11_init 84 = .ok (.iastore, 1) := by decide +kernel
theorem dX11_init_85 : decode cX11_init 85 = .ok (.aload_n 0, 1) := by decide +kernel
theorem dX11_init_86 : decode cX11_init 86 = .ok (.getfield 16, 3) := by decide +kernel
theorem dX11_init_89 : decode cX11_init 89 = .ok (.bipush 16, 2) := by decide +kernel
theorem dX11_init_91 : decode cX11_init 91 = .ok (.sipush 200, 3) := by decide +kernel
theorem dX11_init_94 : decode cX11_init 94 = .ok (.iastore, 1) := by decide +kernel
theorem dX11_init_95 : decode cX11_init 95 = .ok (.aload_n 0, 1) := by decide +kernel
theorem dX11_init_96 : decode cX11_init 96 = .ok (.getfield 16, 3) := by decide +kernel
theorem dX11_init_99 : decode cX11_init 99 = .ok (.iconst 4, 1) := by decide +kernel
theorem dX11_init_100 : decode cX11_init 100 = .ok (.iconst 1, 1) := by decide +kernel
theorem dX11_init_101 : decode cX11_init 101 = .ok (.iastore, 1) := by decide +kernel
theorem dX11_init_102 : decode cX11_init 102 = .ok (.aload_n 0, 1) := by decide +kernel
theorem dX11_init_103 : decode cX11_init 103 = .ok (.getfield 16, 3) := by decide +kernel
theorem dX11_init_106 : decode cX11_init 106 = .ok (.iconst 5, 1) := by decide +kernel
theorem dX11_init_107 : decode cX11_init 107 = .ok (.iconst 1, 1) := by decide +kernel
theorem dX11_init_108 : decode cX11_init 108 = .ok (.iastore, 1) := by decide +kernel
theorem dX11_init_109 : decode cX11_init 109 = .ok (.aload_n 0, 1) := by decide +kernel
theorem dX11_init_110 : decode cX11_init 110 = .ok (.getfield 16, 3) := by decide +kernel
theorem dX11_init_113 : decode cX11_init 113 = .ok (.bipush 6, 2) := by decide +kernel
theorem dX11_init_115 : decode cX11_init 115 = .ok (.iconst 1, 1) := by decide +kernel
theorem dX11_init_116 : decode cX11_init 116 = .ok (.iastore, 1) := by decide +kernel
theorem dX11_init_117 : decode cX11_init 117 = .ok (.aload_n 0, 1) := by decide +kernel
theorem dX11_init_118 : decode cX11_init 118 = .ok (.getfield 16, 3) := by decide +kernel
theorem dX11_init_121 : decode cX11_init 121 = .ok (.bipush 23, 2) := by decide +kernel
theorem dX11_init_123 : decode cX11_init 123 = .ok (.bipush 50, 2) := by decide +kernel
theorem dX11_init_125 : decode cX11_init 125 = .ok (.iastore, 1) := by decide +kernel
theorem dX11_init_126 : decode cX11_init 126 = .ok (.aload_n 0, 1) := by decide +kernel
theorem dX11_init_127 : decode cX11_init 127 = .ok (.getfield 16, 3) := by decide +kernel
theorem dX11_init_130 : decode cX11_init 130 = .ok (.bipush 25, 2) := by decide +kernel
theorem dX11_init_132 : decode cX11_init 132 = .ok (.bipush 99, 2) := by decide +kernel
theorem dX11_init_134 : decode cX11_init 134 = .ok (.iastore, 1) := by decide +kernel
theorem dX11_init_135 : decode cX11_init 135 = .ok (.aload_n 0, 1) := by decide +kernel
theorem dX11_init_136 : decode cX11_init 136 = .ok (.getfield 16, 3) := by decide +kernel
theorem dX11_init_139 : decode cX11_init 139 = .ok (.bipush 26, 2) := by decide +kernel
theorem dX11_init_141 : decode cX11_init 141 = .ok (.iconst 5, 1) := by decide +kernel
theorem dX11_init_142 : decode cX11_init 142 = .ok (.iastore, 1) := by decide +kernel
theorem dX11_init_143 : decode cX11_init 143 = .ok (.aload_n 0, 1) := by decide +kernel
theorem dX11_init_144 : decode cX11_init 144 = .ok (.getfield 16, 3) := by decide +kernel
theorem dX11_init_147 : decode cX11_init 147 = .ok (.bipush 59, 2) := by decide +kernel
theorem dX11_init_149 : decode cX11_init 149 = .ok (.bipush 100, 2) := by decide +kernel
theorem dX11_init_151 : decode cX11_init 151 = .ok (.iastore, 1) := by decide +kernel
theorem dX11_init_152 : decode cX11_init 152 = .ok (.aload_n 0, 1) := by decide +kernel
theorem dX11_init_153 : decode cX11_init 153 = .ok (.getfield 16, 3) := by decide +kernel
theorem dX11_init_156 : decode cX11_init 156 = .ok (.bipush 60, 2) := by decide +kernel
theorem dX11_init_158 : decode cX11_init 158 = .ok (.bipush 10, 2) := by decide +kernel
theorem dX11_init_160 : decode cX11_init 160 = .ok (.iastore, 1) := by decide +kernel
theorem dX11_init_161 : decode cX11_init 161 = .ok (.aload_n 0, 1) := by decide +kernel
theorem dX11_init_162 : decode cX11_init 162 = .ok (.getfield 16, 3) := by decide +kernel
theorem dX11_init_165 : decode cX11_init 165 = .ok (.bipush 61, 2) := by decide +kernel
theorem dX11_init_167 : decode cX11_init 167 = .ok (.iconst 5, 1) := by decide +kernel
theorem dX11_init_168 : decode cX11_init 168 = .ok (.iastore, 1) := by decide +kernel
theorem dX11_init_169 : decode cX11_init 169 = .ok (.aload_n 0, 1) := by decide +kernel
theorem dX11_init_170 : decode cX11_init 170 = .ok (.getfield 16, 3) := by decide +kernel
theorem dX11_init_173 : decode cX11_init 173 = .ok (.bipush 62, 2) := by decide +kernel
theorem dX11_init_175 : decode cX11_init 175 = .ok (.bipush 20, 2) := by decide +kernel
theorem dX11_init_177 : decode cX11_init 177 = .ok (.iastore, 1) := by decide +kernel
theorem dX11_init_178 : decode cX11_init 178 = .ok (.aload_n 0, 1) := by decide +kernel
theorem dX11_init_179 : decode cX11_init 179 = .ok (.getfield 16, 3) := by decide +kernel
theorem dX11_init_182 : decode cX11_init 182 = .ok (.bipush 91, 2) := by decide +kernel
theorem dX11_init_184 : decode cX11_init 184 = .ok (.iconst 3, 1) := by decide +kernel
theorem dX11_init_185 : decode cX11_init 185 = .ok (.iastore, 1) := by decide +kernel
theorem dX11_init_186 : decode cX11_init 186 = .ok (.return_, 1) := by decide +kernel
theorem dX11_thrown_0 : decode cX11_thrown 0 = .ok (.aload_n 0, 1) := by decide +kernel
theorem dX11_thrown_1 : decode cX11_thrown 1 = .ok (.getfield 32, 3) := by decide +kernel
theorem dX11_thrown_4 : decode cX11_thrown 4 = .ok (.ireturn, 1) := by decide +kernel
theorem dX11_refused_0 : decode cX11_refused 0 = .ok (.aload_n 0, 1) := by decide +kernel
theorem dX11_refused_1 : decode cX11_refused 1 = .ok (.iload_n 1, 1) := by decide +kernel
theorem dX11_refused_2 : decode cX11_refused 2 = .ok (.putfield 32, 3) := by decide +kernel
theorem dX11_refused_5 : decode cX11_refused 5 = .ok (.iload_n 1, 1) := by decide +kernel
theorem dX11_refused_6 : decode cX11_refused 6 = .ok (.ifCond .le 7, 3) := by decide +kernel
theorem dX11_refused_9 : decode cX11_refused 9 = .ok (.iconst 1, 1) := by decide +kernel
theorem dX11_refused_10 : decode cX11_refused 10 = .ok (.goto 4, 3) := by decide +kernel
theorem dX11_refused_13 : decode cX11_refused 13 = .ok (.iconst 0, 1) := by decide +kernel
theorem dX11_refused_14 : decode cX11_refused 14 = .ok (.ireturn, 1) := by decide +kernel
theorem dX11_in_0 : decode cX11_in 0 = .ok (.lload_n 0, 1) := by decide +kernel
theorem dX11_in_1 : decode cX11_in 1 = .ok (.lload_n 2, 1) := by decide +kernel
theorem dX11_in_2 : decode cX11_in 2 = .ok (.lcmp, 1) := by decide +kernel
theorem dX11_in_3 : decode cX11_in 3 = .ok (.ifCond .lt 14, 3) := by decide +kernel
theorem dX11_in_6 : decode cX11_in 6 = .ok (.lload_n 0, 1) := by decide +kernel
theorem dX11_in_7 : decode cX11_in 7 = .ok (.lload 4, 2) := by decide +kernel
theorem dX11_in_9 : decode cX11_in 9 = .ok (.lcmp, 1) := by decide +kernel
theorem dX11_in_10 : decode cX11_in 10 = .ok (.ifCond .gt 7, 3) := by decide +kernel
theorem dX11_in_13 : decode cX11_in 13 = .ok (.iconst 1, 1) := by decide +kernel
theorem dX11_in_14 : decode cX11_in 14 = .ok (.goto 4, 3) := by decide +kernel
theorem dX11_in_17 : decode cX11_in 17 = .ok (.iconst 0, 1) := by decide +kernel
theorem dX11_in_18 : decode cX11_in 18 = .ok (.ireturn, 1) := by decide +kernel
theorem dX11_copyPage_0 : decode cX11_copyPage 0 = .ok (.iconst 0, 1) := by decide +kernel
theorem dX11_copyPage_1 : decode cX11_copyPage 1 = .ok (.istore 4, 2) := by decide +kernel
theorem dX11_copyPage_3 : decode cX11_copyPage 3 = .ok (.iload 4, 2) := by decide +kernel
theorem dX11_copyPage_5 : decode cX11_copyPage 5 = .ok (.bipush 121, 2) := by decide +kernel
theorem dX11_copyPage_7 : decode cX11_copyPage 7 = .ok (.if_icmp .ge 21, 3) := by decide +kernel
theorem dX11_copyPage_10 : decode cX11_copyPage 10 = .ok (.aload_n 2, 1) := by decide +kernel
theorem dX11_copyPage_11 : decode cX11_copyPage 11 = .ok (.iload_n 3, 1) := by decide +kernel
theorem dX11_copyPage_12 : decode cX11_copyPage 12 = .ok (.iload 4, 2) := by decide +kernel
theorem dX11_copyPage_14 : decode cX11_copyPage 14 = .ok (.iadd, 1) := by decide +kernel
theorem dX11_copyPage_15 : decode cX11_copyPage 15 = .ok (.aload_n 0, 1) := by decide +kernel
theorem dX11_copyPage_16 : decode cX11_copyPage 16 = .ok (.iload_n 1, 1) := by decide +kernel
theorem dX11_copyPage_17 : decode cX11_copyPage 17 = .ok (.iload 4, 2) := by decide +kernel
theorem dX11_copyPage_19 : decode cX11_copyPage 19 = .ok (.iadd, 1) := by decide +kernel
theorem dX11_copyPage_20 : decode cX11_copyPage 20 = .ok (.iaload, 1) := by decide +kernel
theorem dX11_copyPage_21 : decode cX11_copyPage 21 = .ok (.iastore, 1) := by decide +kernel
theorem dX11_copyPage_22 : decode cX11_copyPage 22 = .ok (.iinc 4 1, 3) := by decide +kernel
theorem dX11_copyPage_25 : decode cX11_copyPage 25 = .ok (.goto (-22), 3) := by decide +kernel
theorem dX11_copyPage_28 : decode cX11_copyPage 28 = .ok (.return_, 1) := by decide +kernel
theorem dX11_isZone_0 : decode cX11_isZone 0 = .ok (.iload_n 1, 1) := by decide +kernel
theorem dX11_isZone_1 : decode cX11_isZone 1 = .ok (.i2l, 1) := by decide +kernel
theorem dX11_isZone_2 : decode cX11_isZone 2 = .ok (.lconst 0, 1) := by decide +kernel
theorem dX11_isZone_3 : decode cX11_isZone 3 = .ok (.aload_n 0, 1) := by decide +kernel
theorem dX11_isZone_4 : decode cX11_isZone 4 = .ok (.iconst 4, 1) := by decide +kernel
theorem dX11_isZone_5 : decode cX11_isZone 5 = .ok (.iaload, 1) := by decide +kernel
theorem dX11_isZone_6 : decode cX11_isZone 6 = .ok (.iconst 1, 1) := by decide +kernel
theorem dX11_isZone_7 : decode cX11_isZone 7 = .ok (.isub, 1) := by decide +kernel
theorem dX11_isZone_8 : decode cX11_isZone 8 = .ok (.i2l, 1) := by decide +kernel
theorem dX11_isZone_9 : decode cX11_isZone 9 = .ok (.invokestatic 36, 3) := by decide +kernel
theorem dX11_isZone_12 : decode cX11_isZone 12 = .ok (.ireturn, 1) := by decide +kernel
theorem dX11_isShip_0 : decode cX11_isShip 0 = .ok (.iload_n 1, 1) := by decide +kernel
theorem dX11_isShip_1 : decode cX11_isShip 1 = .ok (.i2l, 1) := by decide +kernel
theorem dX11_isShip_2 : decode cX11_isShip 2 = .ok (.lconst 0, 1) := by decide +kernel
theorem dX11_isShip_3 : decode cX11_isShip 3 = .ok (.aload_n 0, 1) := by decide +kernel
theorem dX11_isShip_4 : decode cX11_isShip 4 = .ok (.iconst 5, 1) := by decide +kernel
theorem dX11_isShip_5 : decode cX11_isShip 5 = .ok (.iaload, 1) := by decide +kernel
theorem dX11_isShip_6 : decode cX11_isShip 6 = .ok (.iconst 1, 1) := by decide +kernel
theorem dX11_isShip_7 : decode cX11_isShip 7 = .ok (.isub, 1) := by decide +kernel
theorem dX11_isShip_8 : decode cX11_isShip 8 = .ok (.i2l, 1) := by decide +kernel
theorem dX11_isShip_9 : decode cX11_isShip 9 = .ok (.invokestatic 36, 3) := by decide +kernel
theorem dX11_isShip_12 : decode cX11_isShip 12 = .ok (.ireturn, 1) := by decide +kernel
theorem dX11_zoneAt_0 : decode cX11_zoneAt 0 = .ok (.bipush 23, 2) := by decide +kernel
theorem dX11_zoneAt_2 : decode cX11_zoneAt 2 = .ok (.iconst 4, 1) := by decide +kernel
theorem dX11_zoneAt_3 : decode cX11_zoneAt 3 = .ok (.iload_n 0, 1) := by decide +kernel
theorem dX11_zoneAt_4 : decode cX11_zoneAt 4 = .ok (.imul, 1) := by decide +kernel
theorem dX11_zoneAt_5 : decode cX11_zoneAt 5 = .ok (.iadd, 1) := by decide +kernel
theorem dX11_zoneAt_6 : decode cX11_zoneAt 6 = .ok (.ireturn, 1) := by decide +kernel
theorem dX11_shipAt_0 : decode cX11_shipAt 0 = .ok (.bipush 59, 2) := by decide +kernel
theorem dX11_shipAt_2 : decode cX11_shipAt 2 = .ok (.bipush 8, 2) := by decide +kernel
theorem dX11_shipAt_4 : decode cX11_shipAt 4 = .ok (.iload_n 0, 1) := by decide +kernel
theorem dX11_shipAt_5 : decode cX11_shipAt 5 = .ok (.imul, 1) := by decide +kernel
theorem dX11_shipAt_6 : decode cX11_shipAt 6 = .ok (.iadd, 1) := by decide +kernel
theorem dX11_shipAt_7 : decode cX11_shipAt 7 = .ok (.ireturn, 1) := by decide +kernel
theorem dX11_isFinished_0 : decode cX11_isFinished 0 = .ok (.aload_n 0, 1) := by decide +kernel
theorem dX11_isFinished_1 : decode cX11_isFinished 1 = .ok (.bipush 7, 2) := by decide +kernel
theorem dX11_isFinished_3 : decode cX11_isFinished 3 = .ok (.iaload, 1) := by decide +kernel
theorem dX11_isFinished_4 : decode cX11_isFinished 4 = .ok (.aload_n 0, 1) := by decide +kernel
theorem dX11_isFinished_5 : decode cX11_isFinished 5 = .ok (.iconst 4, 1) := by decide +kernel
theorem dX11_isFinished_6 : decode cX11_isFinished 6 = .ok (.iaload, 1) := by decide +kernel
theorem dX11_isFinished_7 : decode cX11_isFinished 7 = .ok (.if_icmp .ne 7, 3) := by decide +kernel
theorem dX11_isFinished_10 : decode cX11_isFinished 10 = .ok (.iconst 1, 1) := by decide +kernel
theorem dX11_isFinished_11 : decode cX11_isFinished 11 = .ok (.goto 4, 3) := by decide +kernel
theorem dX11_isFinished_14 : decode cX11_isFinished 14 = .ok (.iconst 0, 1) := by decide +kernel
theorem dX11_isFinished_15 : decode cX11_isFinished 15 = .ok (.ireturn, 1) := by decide +kernel
theorem dX11_needOf_0 : decode cX11_needOf 0 = .ok (.iload_n 2, 1) := by decide +kernel
theorem dX11_needOf_1 : decode cX11_needOf 1 = .ok (.iload_n 2, 1) := by decide +kernel
theorem dX11_needOf_2 : decode cX11_needOf 2 = .ok (.aload_n 0, 1) := by decide +kernel
theorem dX11_needOf_3 : decode cX11_needOf 3 = .ok (.iload_n 1, 1) := by decide +kernel
theorem dX11_needOf_4 : decode cX11_needOf 4 = .ok (.invokestatic 40, 3) := by decide +kernel
theorem dX11_needOf_7 : decode cX11_needOf 7 = .ok (.iconst 3, 1) := by decide +kernel
theorem dX11_needOf_8 : decode cX11_needOf 8 = .ok (.iadd, 1) := by decide +kernel
theorem dX11_needOf_9 : decode cX11_needOf 9 = .ok (.iaload, 1) := by decide +kernel
theorem dX11_needOf_10 : decode cX11_needOf 10 = .ok (.imul, 1) := by decide +kernel
theorem dX11_needOf_11 : decode cX11_needOf 11 = .ok (.bipush 99, 2) := by decide +kernel
theorem dX11_needOf_13 : decode cX11_needOf 13 = .ok (.iadd, 1) := by decide +kernel
theorem dX11_needOf_14 : decode cX11_needOf 14 = .ok (.bipush 100, 2) := by decide +kernel
theorem dX11_needOf_16 : decode cX11_needOf 16 = .ok (.idiv, 1) := by decide +kernel
theorem dX11_needOf_17 : decode cX11_needOf 17 = .ok (.iadd, 1) := by decide +kernel
theorem dX11_needOf_18 : decode cX11_needOf 18 = .ok (.ireturn, 1) := by decide +kernel
theorem dX11_mostOf_0 : decode cX11_mostOf 0 = .ok (.iload_n 3, 1) := by decide +kernel
theorem dX11_mostOf_1 : decode cX11_mostOf 1 = .ok (.istore 4, 2) := by decide +kernel
theorem dX11_mostOf_3 : decode cX11_mostOf 3 = .ok (.aload_n 0, 1) := by decide +kernel
theorem dX11_mostOf_4 : decode cX11_mostOf 4 = .ok (.iload_n 2, 1) := by decide +kernel
theorem dX11_mostOf_5 : decode cX11_mostOf 5 = .ok (.iload 4, 2) := by decide +kernel
theorem dX11_mostOf_7 : decode cX11_mostOf 7 = .ok (.invokestatic 44, 3) := by decide +kernel
theorem dX11_mostOf_10 : decode cX11_mostOf 10 = .ok (.aload_n 0, 1) := by decide +kernel
theorem dX11_mostOf_11 : decode cX11_mostOf 11 = .ok (.iload_n 1, 1) := by decide +kernel
theorem dX11_mostOf_12 : decode cX11_mostOf 12 = .ok (.invokestatic 48, 3) := by decide +kernel
theorem dX11_mostOf_15 : decode cX11_mostOf 15 = .ok (.iconst 4, 1) := by decide +kernel
theorem dX11_mostOf_16 : decode cX11_mostOf 16 = .ok (.iadd, 1) := by decide +kernel
theorem dX11_mostOf_17 : decode cX11_mostOf 17 = .ok (.iaload, 1) := by decide +kernel
theorem dX11_mostOf_18 : decode cX11_mostOf 18 = .ok (.if_icmp .le 9, 3) := by decide +kernel
theorem dX11_mostOf_21 : decode cX11_mostOf 21 = .ok (.iinc 4 (-1), 3) := by decide +kernel
theorem dX11_mostOf_24 : decode cX11_mostOf 24 = .ok (.goto (-21), 3) := by decide +kernel
theorem dX11_mostOf_27 : decode cX11_mostOf 27 = .ok (.iload 4, 2) := by decide +kernel
theorem dX11_mostOf_29 : decode cX11_mostOf 29 = .ok (.ireturn, 1) := by decide +kernel
theorem dX11_wavesOf_0 : decode cX11_wavesOf 0 = .ok (.aload_n 0, 1) := by decide +kernel
theorem dX11_wavesOf_1 : decode cX11_wavesOf 1 = .ok (.bipush 91, 2) := by decide +kernel
theorem dX11_wavesOf_3 : decode cX11_wavesOf 3 = .ok (.iload_n 1, 1) := by decide +kernel
theorem dX11_wavesOf_4 : decode cX11_wavesOf 4 = .ok (.aload_n 0, 1) := by decide +kernel
theorem dX11_wavesOf_5 : decode cX11_wavesOf 5 = .ok (.bipush 6, 2) := by decide +kernel
theorem dX11_wavesOf_7 : decode cX11_wavesOf 7 = .ok (.iaload, 1) := by decide +kernel
theorem dX11_wavesOf_8 : decode cX11_wavesOf 8 = .ok (.irem, 1) := by decide +kernel
theorem dX11_wavesOf_9 : decode cX11_wavesOf 9 = .ok (.iadd, 1) := by decide +kernel
theorem dX11_wavesOf_10 : decode cX11_wavesOf 10 = .ok (.iaload, 1) := by decide +kernel
theorem dX11_wavesOf_11 : decode cX11_wavesOf 11 = .ok (.ireturn, 1) := by decide +kernel
theorem dX11_frontShip_0 : decode cX11_frontShip 0 = .ok (.iconst 0, 1) := by decide +kernel
theorem dX11_frontShip_1 : decode cX11_frontShip 1 = .ok (.istore_n 1, 1) := by decide +kernel
theorem dX11_frontShip_2 : decode cX11_frontShip 2 = .ok (.iload_n 1, 1) := by decide +kernel
theorem dX11_frontShip_3 : decode cX11_frontShip 3 = .ok (.aload_n 0, 1) := by decide +kernel
theorem dX11_frontShip_4 : decode cX11_frontShip 4 = .ok (.iconst 5, 1) := by decide +kernel
theorem dX11_frontShip_5 : decode cX11_frontShip 5 = .ok (.iaload, 1) := by decide +kernel
theorem dX11_frontShip_6 : decode cX11_frontShip 6 = .ok (.if_icmp .ge 23, 3) := by decide +kernel
theorem dX11_frontShip_9 : decode cX11_frontShip 9 = .ok (.aload_n 0, 1) := by decide +kernel
theorem dX11_frontShip_10 : decode cX11_frontShip 10 = .ok (.iload_n 1, 1) := by decide +kernel
theorem dX11_frontShip_11 : decode cX11_frontShip 11 = .ok (.invokestatic 48, 3) := by decide +kernel
theorem dX11_frontShip_14 : decode cX11_frontShip 14 = .ok (.iconst 5, 1) := by decide +kernel
theorem dX11_frontShip_15 : decode cX11_frontShip 15 = .ok (.iadd, 1) := by decide +kernel
theorem dX11_frontShip_16 : decode cX11_frontShip 16 = .ok (.iaload, 1) := by decide +kernel
theorem dX11_frontShip_17 : decode cX11_frontShip 17 = .ok (.iconst 3, 1) := by decide +kernel
theorem dX11_frontShip_18 : decode cX11_frontShip 18 = .ok (.if_icmp .ne 5, 3) := by decide +kernel
theorem dX11_frontShip_21 : decode cX11_frontShip 21 = .ok (.iload_n 1, 1) := by decide +kernel
theorem dX11_frontShip_22 : decode cX11_frontShip 22 = .ok (.ireturn, 1) := by decide +kernel
theorem dX11_frontShip_23 : decode cX11_frontShip 23 = .ok (.iinc 1 1, 3) := by decide +kernel
theorem dX11_frontShip_26 : decode cX11_frontShip 26 = .ok (.goto (-24), 3) := by decide +kernel
theorem dX11_frontShip_29 : decode cX11_frontShip 29 = .ok (.bipush (-9), 2) := by decide +kernel
theorem dX11_frontShip_31 : decode cX11_frontShip 31 = .ok (.ireturn, 1) := by decide +kernel
theorem dX11_wayOf_0 : decode cX11_wayOf 0 = .ok (.aload_n 0, 1) := by decide +kernel
theorem dX11_wayOf_1 : decode cX11_wayOf 1 = .ok (.invokestatic 51, 3) := by decide +kernel
theorem dX11_wayOf_4 : decode cX11_wayOf 4 = .ok (.ifCond .eq 9, 3) := by decide +kernel
theorem dX11_wayOf_7 : decode cX11_wayOf 7 = .ok (.aload_n 0, 1) := by decide +kernel
theorem dX11_wayOf_8 : decode cX11_wayOf 8 = .ok (.iconst 4, 1) := by decide +kernel
theorem dX11_wayOf_9 : decode cX11_wayOf 9 = .ok (.iaload, 1) := by decide +kernel
theorem dX11_wayOf_10 : decode cX11_wayOf 10 = .ok (.goto 9, 3) := by decide +kernel
theorem dX11_wayOf_13 : decode cX11_wayOf 13 = .ok (.aload_n 0, 1) := by decide +kernel
theorem dX11_wayOf_14 : decode cX11_wayOf 14 = .ok (.bipush 7, 2) := by decide +kernel
theorem dX11_wayOf_16 : decode cX11_wayOf 16 = .ok (.iaload, 1) := by decide +kernel
theorem dX11_wayOf_17 : decode cX11_wayOf 17 = .ok (.iconst 1, 1) := by decide +kernel
theorem dX11_wayOf_18 : decode cX11_wayOf 18 = .ok (.iadd, 1) := by decide +kernel
theorem dX11_wayOf_19 : decode cX11_wayOf 19 = .ok (.ireturn, 1) := by decide +kernel
theorem dX11_goHome_0 : decode cX11_goHome 0 = .ok (.aload_n 0, 1) := by decide +kernel
theorem dX11_goHome_1 : decode cX11_goHome 1 = .ok (.bipush 10, 2) := by decide +kernel
theorem dX11_goHome_3 : decode cX11_goHome 3 = .ok (.aload_n 0, 1) := by decide +kernel
theorem dX11_goHome_4 : decode cX11_goHome 4 = .ok (.iload_n 1, 1) := by decide +kernel
theorem dX11_goHome_5 : decode cX11_goHome 5 = .ok (.invokestatic 48, 3) := by decide +kernel
theorem dX11_goHome_8 : decode cX11_goHome 8 = .ok (.iconst 5, 1) := by decide +kernel
theorem dX11_goHome_9 : decode cX11_goHome 9 = .ok (.iadd, 1) := by decide +kernel
theorem dX11_goHome_10 : decode cX11_goHome 10 = .ok (.iaload, 1) := by decide +kernel
theorem dX11_goHome_11 : decode cX11_goHome 11 = .ok (.iconst 3, 1) := by decide +kernel
theorem dX11_goHome_12 : decode cX11_goHome 12 = .ok (.if_icmp .ne 7, 3) := by decide +kernel
theorem dX11_goHome_15 : decode cX11_goHome 15 = .ok (.iconst 0, 1) := by decide +kernel
theorem dX11_goHome_16 : decode cX11_goHome 16 = .ok (.goto 7, 3) := by decide +kernel
theorem dX11_goHome_19 : decode cX11_goHome 19 = .ok (.aload_n 0, 1) := by decide +kernel
theorem dX11_goHome_20 : decode cX11_goHome 20 = .ok (.bipush 10, 2) := by decide +kernel
theorem dX11_goHome_22 : decode cX11_goHome 22 = .ok (.iaload, 1) := by decide +kernel
theorem dX11_goHome_23 : decode cX11_goHome 23 = .ok (.iastore, 1) := by decide +kernel
theorem dX11_goHome_24 : decode cX11_goHome 24 = .ok (.aload_n 0, 1) := by decide +kernel
theorem dX11_goHome_25 : decode cX11_goHome 25 = .ok (.bipush 11, 2) := by decide +kernel
theorem dX11_goHome_27 : decode cX11_goHome 27 = .ok (.aload_n 0, 1) := by decide +kernel
theorem dX11_goHome_28 : decode cX11_goHome 28 = .ok (.bipush 10, 2) := by decide +kernel
theorem dX11_goHome_30 : decode cX11_goHome 30 = .ok (.iaload, 1) := by decide +kernel
theorem dX11_goHome_31 : decode cX11_goHome 31 = .ok (.iconst 2, 1) := by decide +kernel
theorem dX11_goHome_32 : decode cX11_goHome 32 = .ok (.if_icmp .ne 10, 3) := by decide +kernel
theorem dX11_goHome_35 : decode cX11_goHome 35 = .ok (.aload_n 0, 1) := by decide +kernel
theorem dX11_goHome_36 : decode cX11_goHome 36 = .ok (.bipush 11, 2) := by decide +kernel
theorem dX11_goHome_38 : decode cX11_goHome 38 = .ok (.iaload, 1) := by decide +kernel
theorem dX11_goHome_39 : decode cX11_goHome 39 = .ok (.goto 4, 3) := by decide +kernel
theorem dX11_goHome_42 : decode cX11_goHome 42 = .ok (.iconst 0, 1) := by decide +kernel
theorem dX11_goHome_43 : decode cX11_goHome 43 = .ok (.iastore, 1) := by decide +kernel
theorem dX11_goHome_44 : decode cX11_goHome 44 = .ok (.aload_n 0, 1) := by decide +kernel
theorem dX11_goHome_45 : decode cX11_goHome 45 = .ok (.iload_n 1, 1) := by decide +kernel
theorem dX11_goHome_46 : decode cX11_goHome 46 = .ok (.invokestatic 48, 3) := by decide +kernel
theorem dX11_goHome_49 : decode cX11_goHome 49 = .ok (.iconst 5, 1) := by decide +kernel
theorem dX11_goHome_50 : decode cX11_goHome 50 = .ok (.iadd, 1) := by decide +kernel
theorem dX11_goHome_51 : decode cX11_goHome 51 = .ok (.iconst 4, 1) := by decide +kernel
theorem dX11_goHome_52 : decode cX11_goHome 52 = .ok (.iastore, 1) := by decide +kernel
theorem dX11_goHome_53 : decode cX11_goHome 53 = .ok (.aload_n 0, 1) := by decide +kernel
theorem dX11_goHome_54 : decode cX11_goHome 54 = .ok (.iload_n 1, 1) := by decide +kernel
theorem dX11_goHome_55 : decode cX11_goHome 55 = .ok (.invokestatic 48, 3) := by decide +kernel
theorem dX11_goHome_58 : decode cX11_goHome 58 = .ok (.bipush 6, 2) := by decide +kernel
theorem dX11_goHome_60 : decode cX11_goHome 60 = .ok (.iadd, 1) := by decide +kernel
theorem dX11_goHome_61 : decode cX11_goHome 61 = .ok (.iload_n 2, 1) := by decide +kernel
theorem dX11_goHome_62 : decode cX11_goHome 62 = .ok (.iastore, 1) := by decide +kernel
theorem dX11_goHome_63 : decode cX11_goHome 63 = .ok (.return_, 1) := by decide +kernel
theorem dX11_freeTeams_0 : decode cX11_freeTeams 0 = .ok (.aload_n 0, 1) := by decide +kernel
theorem dX11_freeTeams_1 : decode cX11_freeTeams 1 = .ok (.iconst 0, 1) := by decide +kernel
theorem dX11_freeTeams_2 : decode cX11_freeTeams 2 = .ok (.iaload, 1) := by decide +kernel
theorem dX11_freeTeams_3 : decode cX11_freeTeams 3 = .ok (.aload_n 0, 1) := by decide +kernel
theorem dX11_freeTeams_4 : decode cX11_freeTeams 4 = .ok (.bipush 10, 2) := by decide +kernel
theorem dX11_freeTeams_6 : decode cX11_freeTeams 6 = .ok (.iaload, 1) := by decide +kernel
theorem dX11_freeTeams_7 : decode cX11_freeTeams 7 = .ok (.iconst 2, 1) := by decide +kernel
theorem dX11_freeTeams_8 : decode cX11_freeTeams 8 = .ok (.if_icmp .ne 7, 3) := by decide +kernel
theorem dX11_freeTeams_11 : decode cX11_freeTeams 11 = .ok (.iconst 1, 1) := by decide +kernel
theorem dX11_freeTeams_12 : decode cX11_freeTeams 12 = .ok (.goto 4, 3) := by decide +kernel
theorem dX11_freeTeams_15 : decode cX11_freeTeams 15 = .ok (.iconst 0, 1) := by decide +kernel
theorem dX11_freeTeams_16 : decode cX11_freeTeams 16 = .ok (.isub, 1) := by decide +kernel
theorem dX11_freeTeams_17 : decode cX11_freeTeams 17 = .ok (.istore_n 1, 1) := by decide +kernel
theorem dX11_freeTeams_18 : decode cX11_freeTeams 18 = .ok (.iconst 0, 1) := by decide +kernel
theorem dX11_freeTeams_19 : decode cX11_freeTeams 19 = .ok (.istore_n 2, 1) := by decide +kernel
theorem dX11_freeTeams_20 : decode cX11_freeTeams 20 = .ok (.iload_n 2, 1) := by decide +kernel
theorem dX11_freeTeams_21 : decode cX11_freeTeams 21 = .ok (.aload_n 0, 1) := by decide +kernel
theorem dX11_freeTeams_22 : decode cX11_freeTeams 22 = .ok (.iconst 0, 1) := by decide +kernel
theorem dX11_freeTeams_23 : decode cX11_freeTeams 23 = .ok (.iaload, 1) := by decide +kernel
theorem dX11_freeTeams_24 : decode cX11_freeTeams 24 = .ok (.if_icmp .ge 26, 3) := by decide +kernel
theorem dX11_freeTeams_27 : decode cX11_freeTeams 27 = .ok (.iload_n 1, 1) := by decide +kernel
theorem dX11_freeTeams_28 : decode cX11_freeTeams 28 = .ok (.aload_n 0, 1) := by decide +kernel
theorem dX11_freeTeams_29 : decode cX11_freeTeams 29 = .ok (.bipush 13, 2) := by decide +kernel
theorem dX11_freeTeams_31 : decode cX11_freeTeams 31 = .ok (.iload_n 2, 1) := by decide +kernel
theorem dX11_freeTeams_32 : decode cX11_freeTeams 32 = .ok (.iadd, 1) := by decide +kernel
theorem dX11_freeTeams_33 : decode cX11_freeTeams 33 = .ok (.iaload, 1) := by decide +kernel
theorem dX11_freeTeams_34 : decode cX11_freeTeams 34 = .ok (.ifCond .le 7, 3) := by decide +kernel
theorem dX11_freeTeams_37 : decode cX11_freeTeams 37 = .ok (.iconst 1, 1) := by decide +kernel
theorem dX11_freeTeams_38 : decode cX11_freeTeams 38 = .ok (.goto 4, 3) := by decide +kernel
theorem dX11_freeTeams_41 : decode cX11_freeTeams 41 = .ok (.iconst 0, 1) := by decide +kernel
theorem dX11_freeTeams_42 : decode cX11_freeTeams 42 = .ok (.isub, 1) := by decide +kernel
theorem dX11_freeTeams_43 : decode cX11_freeTeams 43 = .ok (.istore_n 1, 1) := by decide +kernel
theorem dX11_freeTeams_44 : decode cX11_freeTeams 44 = .ok (.iinc 2 1, 3) := by decide +kernel
theorem dX11_freeTeams_47 : decode cX11_freeTeams 47 = .ok (.goto (-27), 3) := by decide +kernel
theorem dX11_freeTeams_50 : decode cX11_freeTeams 50 = .ok (.iload_n 1, 1) := by decide +kernel
theorem dX11_freeTeams_51 : decode cX11_freeTeams 51 = .ok (.ireturn, 1) := by decide +kernel
theorem dX11_restOn_0 : decode cX11_restOn 0 = .ok (.iconst 0, 1) := by decide +kernel
theorem dX11_restOn_1 : decode cX11_restOn 1 = .ok (.istore_n 1, 1) := by decide +kernel
theorem dX11_restOn_2 : decode cX11_restOn 2 = .ok (.iload_n 1, 1) := by decide +kernel
theorem dX11_restOn_3 : decode cX11_restOn 3 = .ok (.aload_n 0, 1) := by decide +kernel
theorem dX11_restOn_4 : decode cX11_restOn 4 = .ok (.iconst 0, 1) := by decide +kernel
theorem dX11_restOn_5 : decode cX11_restOn 5 = .ok (.iaload, 1) := by decide +kernel
theorem dX11_restOn_6 : decode cX11_restOn 6 = .ok (.if_icmp .ge 26, 3) := by decide +kernel
theorem dX11_restOn_9 : decode cX11_restOn 9 = .ok (.aload_n 0, 1) := by decide +kernel
theorem dX11_restOn_10 : decode cX11_restOn 10 = .ok (.bipush 13, 2) := by decide +kernel
theorem dX11_restOn_12 : decode cX11_restOn 12 = .ok (.iload_n 1, 1) := by decide +kernel
theorem dX11_restOn_13 : decode cX11_restOn 13 = .ok (.iadd, 1) := by decide +kernel
theorem dX11_restOn_14 : decode cX11_restOn 14 = .ok (.iaload, 1) := by decide +kernel
theorem dX11_restOn_15 : decode cX11_restOn 15 = .ok (.ifCond .ne 11, 3) := by decide +kernel
theorem dX11_restOn_18 : decode cX11_restOn 18 = .ok (.aload_n 0, 1) := by decide +kernel
theorem dX11_restOn_19 : decode cX11_restOn 19 = .ok (.bipush 13, 2) := by decide +kernel
theorem dX11_restOn_21 : decode cX11_restOn 21 = .ok (.iload_n 1, 1) := by decide +kernel
theorem dX11_restOn_22 : decode cX11_restOn 22 = .ok (.iadd, 1) := by decide +kernel
theorem dX11_restOn_23 : decode cX11_restOn 23 = .ok (.iconst 2, 1) := by decide +kernel
theorem dX11_restOn_24 : decode cX11_restOn 24 = .ok (.iastore, 1) := by decide +kernel
theorem dX11_restOn_25 : decode cX11_restOn 25 = .ok (.return_, 1) := by decide +kernel
theorem dX11_restOn_26 : decode cX11_restOn 26 = .ok (.iinc 1 1, 3) := by decide +kernel
theorem dX11_restOn_29 : decode cX11_restOn 29 = .ok (.goto (-27), 3) := by decide +kernel
theorem dX11_restOn_32 : decode cX11_restOn 32 = .ok (.return_, 1) := by decide +kernel
theorem dX11_sailOn_0 : decode cX11_sailOn 0 = .ok (.iconst 0, 1) := by decide +kernel
theorem dX11_sailOn_1 : decode cX11_sailOn 1 = .ok (.istore_n 1, 1) := by decide +kernel
theorem dX11_sailOn_2 : decode cX11_sailOn 2 = .ok (.iload_n 1, 1) := by decide +kernel
theorem dX11_sailOn_3 : decode cX11_sailOn 3 = .ok (.aload_n 0, 1) := by decide +kernel
theorem dX11_sailOn_4 : decode cX11_sailOn 4 = .ok (.iconst 5, 1) := by decide +kernel
theorem dX11_sailOn_5 : decode cX11_sailOn 5 = .ok (.iaload, 1) := by decide +kernel
theorem dX11_sailOn_6 : decode cX11_sailOn 6 = .ok (.if_icmp .ge 70, 3) := by decide +kernel
theorem dX11_sailOn_9 : decode cX11_sailOn 9 = .ok (.iload_n 1, 1) := by decide +kernel
theorem dX11_sailOn_10 : decode cX11_sailOn 10 = .ok (.invokestatic 48, 3) := by decide +kernel
theorem dX11_sailOn_13 : decode cX11_sailOn 13 = .ok (.istore_n 2, 1) := by decide +kernel
theorem dX11_sailOn_14 : decode cX11_sailOn 14 = .ok (.aload_n 0, 1) := by decide +kernel
theorem dX11_sailOn_15 : decode cX11_sailOn 15 = .ok (.iload_n 2, 1) := by decide +kernel
theorem dX11_sailOn_16 : decode cX11_sailOn 16 = .ok (.iconst 5, 1) := by decide +kernel
theorem dX11_sailOn_17 : decode cX11_sailOn 17 = .ok (.iadd, 1) := by decide +kernel
theorem dX11_sailOn_18 : decode cX11_sailOn 18 = .ok (.iaload, 1) := by decide +kernel
theorem dX11_sailOn_19 : decode cX11_sailOn 19 = .ok (.iconst 1, 1) := by decide +kernel
theorem dX11_sailOn_20 : decode cX11_sailOn 20 = .ok (.if_icmp .eq 12, 3) := by decide +kernel
theorem dX11_sailOn_23 : decode cX11_sailOn 23 = .ok (.aload_n 0, 1) := by decide +kernel
theorem dX11_sailOn_24 : decode cX11_sailOn 24 = .ok (.iload_n 2, 1) := by decide +kernel
theorem dX11_sailOn_25 : decode cX11_sailOn 25 = .ok (.iconst 5, 1) := by decide +kernel
theorem dX11_sailOn_26 : decode cX11_sailOn 26 = .ok (.iadd, 1) := by decide +kernel
theorem dX11_sailOn_27 : decode cX11_sailOn 27 = .ok (.iaload, 1) := by decide +kernel
theorem dX11_sailOn_28 : decode cX11_sailOn 28 = .ok (.iconst 4, 1) := by decide +kernel
theorem dX11_sailOn_29 : decode cX11_sailOn 29 = .ok (.if_icmp .ne 41, 3) := by decide +kernel
theorem dX11_sailOn_32 : decode cX11_sailOn 32 = .ok (.aload_n 0, 1) := by decide +kernel
theorem dX11_sailOn_33 : decode cX11_sailOn 33 = .ok (.iload_n 2, 1) := by decide +kernel
theorem dX11_sailOn_34 : decode cX11_sailOn 34 = .ok (.bipush 6, 2) := by decide +kernel
theorem dX11_sailOn_36 : decode cX11_sailOn 36 = .ok (.iadd, 1) := by decide +kernel
theorem dX11_sailOn_37 : decode cX11_sailOn 37 = .ok (.dup2, 1) := by decide +kernel
theorem dX11_sailOn_38 : decode cX11_sailOn 38 = .ok (.iaload, 1) := by decide +kernel
theorem dX11_sailOn_39 : decode cX11_sailOn 39 = .ok (.iconst 1, 1) := by decide +kernel
theorem dX11_sailOn_40 : decode cX11_sailOn 40 = .ok (.isub, 1) := by decide +kernel
theorem dX11_sailOn_41 : decode cX11_sailOn 41 = .ok (.iastore, 1) := by decide +kernel
theorem dX11_sailOn_42 : decode cX11_sailOn 42 = .ok (.aload_n 0, 1) := by decide +kernel
theorem dX11_sailOn_43 : decode cX11_sailOn 43 = .ok (.iload_n 2, 1) := by decide +kernel
theorem dX11_sailOn_44 : decode cX11_sailOn 44 = .ok (.bipush 6, 2) := by decide +kernel
theorem dX11_sailOn_46 : decode cX11_sailOn 46 = .ok (.iadd, 1) := by decide +kernel
theorem dX11_sailOn_47 : decode cX11_sailOn 47 = .ok (.iaload, 1) := by decide +kernel
theorem dX11_sailOn_48 : decode cX11_sailOn 48 = .ok (.ifCond .ne 22, 3) := by decide +kernel
theorem dX11_sailOn_51 : decode cX11_sailOn 51 = .ok (.aload_n 0, 1) := by decide +kernel
theorem dX11_sailOn_52 : decode cX11_sailOn 52 = .ok (.iload_n 2, 1) := by decide +kernel
theorem dX11_sailOn_53 : decode cX11_sailOn 53 = .ok (.iconst 5, 1) := by decide +kernel
theorem dX11_sailOn_54 : decode cX11_sailOn 54 = .ok (.iadd, 1) := by decide +kernel
theorem dX11_sailOn_55 : decode cX11_sailOn 55 = .ok (.aload_n 0, 1) := by decide +kernel
theorem dX11_sailOn_56 : decode cX11_sailOn 56 = .ok (.iload_n 2, 1) := by decide +kernel
theorem dX11_sailOn_57 : decode cX11_sailOn 57 = .ok (.iconst 5, 1) := by decide +kernel
theorem dX11_sailOn_58 : decode cX11_sailOn 58 = .ok (.iadd, 1) := by decide +kernel
theorem dX11_sailOn_59 : decode cX11_sailOn 59 = .ok (.iaload, 1) := by decide +kernel
theorem dX11_sailOn_60 : decode cX11_sailOn 60 = .ok (.iconst 1, 1) := by decide +kernel
theorem dX11_sailOn_61 : decode cX11_sailOn 61 = .ok (.if_icmp .ne 7, 3) := by decide +kernel
theorem dX11_sailOn_64 : decode cX11_sailOn 64 = .ok (.iconst 2, 1) := by decide +kernel
theorem dX11_sailOn_65 : decode cX11_sailOn 65 = .ok (.goto 4, 3) := by decide +kernel
theorem dX11_sailOn_68 : decode cX11_sailOn 68 = .ok (.iconst 0, 1) := by decide +kernel
theorem dX11_sailOn_69 : decode cX11_sailOn 69 = .ok (.iastore, 1) := by decide +kernel
theorem dX11_sailOn_70 : decode cX11_sailOn 70 = .ok (.iinc 1 1, 3) := by decide +kernel
theorem dX11_sailOn_73 : decode cX11_sailOn 73 = .ok (.goto (-71), 3) := by decide +kernel
theorem dX11_sailOn_76 : decode cX11_sailOn 76 = .ok (.return_, 1) := by decide +kernel
theorem dX11_comeOn_0 : decode cX11_comeOn 0 = .ok (.iconst 0, 1) := by decide +kernel
theorem dX11_comeOn_1 : decode cX11_comeOn 1 = .ok (.istore_n 1, 1) := by decide +kernel
theorem dX11_comeOn_2 : decode cX11_comeOn 2 = .ok (.iload_n 1, 1) := by decide +kernel
theorem dX11_comeOn_3 : decode cX11_comeOn 3 = .ok (.aload_n 0, 1) := by decide +kernel
theorem dX11_comeOn_4 : decode cX11_comeOn 4 = .ok (.iconst 5, 1) := by decide +kernel
theorem dX11_comeOn_5 : decode cX11_comeOn 5 = .ok (.iaload, 1) := by decide +kernel
theorem dX11_comeOn_6 : decode cX11_comeOn 6 = .ok (.if_icmp .ge 62, 3) := by decide +kernel
theorem dX11_comeOn_9 : decode cX11_comeOn 9 = .ok (.aload_n 0, 1) := by decide +kernel
theorem dX11_comeOn_10 : decode cX11_comeOn 10 = .ok (.invokestatic 55, 3) := by decide +kernel
theorem dX11_comeOn_13 : decode cX11_comeOn 13 = .ok (.bipush (-9), 2) := by decide +kernel
theorem dX11_comeOn_15 : decode cX11_comeOn 15 = .ok (.if_icmp .ne 53, 3) := by decide +kernel
theorem dX11_comeOn_18 : decode cX11_comeOn 18 = .ok (.aload_n 0, 1) := by decide +kernel
theorem dX11_comeOn_19 : decode cX11_comeOn 19 = .ok (.invokestatic 51, 3) := by decide +kernel
theorem dX11_comeOn_22 : decode cX11_comeOn 22 = .ok (.ifCond .ne 46, 3) := by decide +kernel
theorem dX11_comeOn_25 : decode cX11_comeOn 25 = .ok (.aload_n 0, 1) := by decide +kernel
theorem dX11_comeOn_26 : decode cX11_comeOn 26 = .ok (.iload_n 1, 1) := by decide +kernel
theorem dX11_comeOn_27 : decode cX11_comeOn 27 = .ok (.invokestatic 48, 3) := by decide +kernel
theorem dX11_comeOn_30 : decode cX11_comeOn 30 = .ok (.iconst 5, 1) := by decide +kernel
theorem dX11_comeOn_31 : decode cX11_comeOn 31 = .ok (.iadd, 1) := by decide +kernel
theorem dX11_comeOn_32 : decode cX11_comeOn 32 = .ok (.iaload, 1) := by decide +kernel
theorem dX11_comeOn_33 : decode cX11_comeOn 33 = .ok (.iconst 2, 1) := by decide +kernel
theorem dX11_comeOn_34 : decode cX11_comeOn 34 = .ok (.if_icmp .ne 28, 3) := by decide +kernel
theorem dX11_comeOn_37 : decode cX11_comeOn 37 = .ok (.aload_n 0, 1) := by decide +kernel
theorem dX11_comeOn_38 : decode cX11_comeOn 38 = .ok (.iload_n 1, 1) := by decide +kernel
theorem dX11_comeOn_39 : decode cX11_comeOn 39 = .ok (.invokestatic 48, 3) := by decide +kernel
theorem dX11_comeOn_42 : decode cX11_comeOn 42 = .ok (.iconst 5, 1) := by decide +kernel
theorem dX11_comeOn_43 : decode cX11_comeOn 43 = .ok (.iadd, 1) := by decide +kernel
theorem dX11_comeOn_44 : decode cX11_comeOn 44 = .ok (.iconst 3, 1) := by decide +kernel
theorem dX11_comeOn_45 : decode cX11_comeOn 45 = .ok (.iastore, 1) := by decide +kernel
theorem dX11_comeOn_46 : decode cX11_comeOn 46 = .ok (.aload_n 0, 1) := by decide +kernel
theorem dX11_comeOn_47 : decode cX11_comeOn 47 = .ok (.bipush 10, 2) := by decide +kernel
theorem dX11_comeOn_49 : decode cX11_comeOn 49 = .ok (.aload_n 0, 1) := by decide +kernel
theorem dX11_comeOn_50 : decode cX11_comeOn 50 = .ok (.bipush 17, 2) := by decide +kernel
theorem dX11_comeOn_52 : decode cX11_comeOn 52 = .ok (.iaload, 1) := by decide +kernel
theorem dX11_comeOn_53 : decode cX11_comeOn 53 = .ok (.ifCond .le 7, 3) := by decide +kernel
theorem dX11_comeOn_56 : decode cX11_comeOn 56 = .ok (.iconst 1, 1) := by decide +kernel
theorem dX11_comeOn_57 : decode cX11_comeOn 57 = .ok (.goto 4, 3) := by decide +kernel
theorem dX11_comeOn_60 : decode cX11_comeOn 60 = .ok (.iconst 0, 1) := by decide +kernel
theorem dX11_comeOn_61 : decode cX11_comeOn 61 = .ok (.iastore, 1) := by decide +kernel
theorem dX11_comeOn_62 : decode cX11_comeOn 62 = .ok (.iinc 1 1, 3) := by decide +kernel
theorem dX11_comeOn_65 : decode cX11_comeOn 65 = .ok (.goto (-63), 3) := by decide +kernel
theorem dX11_comeOn_68 : decode cX11_comeOn 68 = .ok (.return_, 1) := by decide +kernel
theorem dX11_layOn_0 : decode cX11_layOn 0 = .ok (.iload_n 1, 1) := by decide +kernel
theorem dX11_layOn_1 : decode cX11_layOn 1 = .ok (.invokestatic 48, 3) := by decide +kernel
theorem dX11_layOn_4 : decode cX11_layOn 4 = .ok (.istore_n 2, 1) := by decide +kernel
theorem dX11_layOn_5 : decode cX11_layOn 5 = .ok (.aload_n 0, 1) := by decide +kernel
theorem dX11_layOn_6 : decode cX11_layOn 6 = .ok (.bipush 7, 2) := by decide +kernel
theorem dX11_layOn_8 : decode cX11_layOn 8 = .ok (.iaload, 1) := by decide +kernel
theorem dX11_layOn_9 : decode cX11_layOn 9 = .ok (.istore_n 3, 1) := by decide +kernel
theorem dX11_layOn_10 : decode cX11_layOn 10 = .ok (.aload_n 0, 1) := by decide +kernel
theorem dX11_layOn_11 : decode cX11_layOn 11 = .ok (.iload_n 3, 1) := by decide +kernel
theorem dX11_layOn_12 : decode cX11_layOn 12 = .ok (.invokestatic 40, 3) := by decide +kernel
theorem dX11_layOn_15 : decode cX11_layOn 15 = .ok (.iaload, 1) := by decide +kernel
theorem dX11_layOn_16 : decode cX11_layOn 16 = .ok (.aload_n 0, 1) := by decide +kernel
theorem dX11_layOn_17 : decode cX11_layOn 17 = .ok (.bipush 8, 2) := by decide +kernel
theorem dX11_layOn_19 : decode cX11_layOn 19 = .ok (.iaload, 1) := by decide +kernel
theorem dX11_layOn_20 : decode cX11_layOn 20 = .ok (.isub, 1) := by decide +kernel
theorem dX11_layOn_21 : decode cX11_layOn 21 = .ok (.istore 4, 2) := by decide +kernel
theorem dX11_layOn_23 : decode cX11_layOn 23 = .ok (.aload_n 0, 1) := by decide +kernel
theorem dX11_layOn_24 : decode cX11_layOn 24 = .ok (.iload_n 1, 1) := by decide +kernel
theorem dX11_layOn_25 : decode cX11_layOn 25 = .ok (.iload_n 3, 1) := by decide +kernel
theorem dX11_layOn_26 : decode cX11_layOn 26 = .ok (.aload_n 0, 1) := by decide +kernel
theorem dX11_layOn_27 : decode cX11_layOn 27 = .ok (.iload_n 2, 1) := by decide +kernel
theorem dX11_layOn_28 : decode cX11_layOn 28 = .ok (.iconst 1, 1) := by decide +kernel
theorem dX11_layOn_29 : decode cX11_layOn 29 = .ok (.iadd, 1) := by decide +kernel
theorem dX11_layOn_30 : decode cX11_layOn 30 = .ok (.iaload, 1) := by decide +kernel
theorem dX11_layOn_31 : decode cX11_layOn 31 = .ok (.iload 4, 2) := by decide +kernel
theorem dX11_layOn_33 : decode cX11_layOn 33 = .ok (.if_icmp .ge 11, 3) := by decide +kernel
theorem dX11_layOn_36 : decode cX11_layOn 36 = .ok (.aload_n 0, 1) := by decide +kernel
theorem dX11_layOn_37 : decode cX11_layOn 37 = .ok (.iload_n 2, 1) := by decide +kernel
theorem dX11_layOn_38 : decode cX11_layOn 38 = .ok (.iconst 1, 1) := by decide +kernel
theorem dX11_layOn_39 : decode cX11_layOn 39 = .ok (.iadd, 1) := by decide +kernel
theorem dX11_layOn_40 : decode cX11_layOn 40 = .ok (.iaload, 1) := by decide +kernel
theorem dX11_layOn_41 : decode cX11_layOn 41 = .ok (.goto 5, 3) := by decide +kernel
theorem dX11_layOn_44 : decode cX11_layOn 44 = .ok (.iload 4, 2) := by decide +kernel
theorem dX11_layOn_46 : decode cX11_layOn 46 = .ok (.invokestatic 59, 3) := by decide +kernel
theorem dX11_layOn_49 : decode cX11_layOn 49 = .ok (.istore 5, 2) := by decide +kernel
theorem dX11_layOn_51 : decode cX11_layOn 51 = .ok (.iload 5, 2) := by decide +kernel
theorem dX11_layOn_53 : decode cX11_layOn 53 = .ok (.ifCond .ne 14, 3) := by decide +kernel
theorem dX11_layOn_56 : decode cX11_layOn 56 = .ok (.aload_n 0, 1) := by decide +kernel
theorem dX11_layOn_57 : decode cX11_layOn 57 = .ok (.iload_n 1, 1) := by decide +kernel
theorem dX11_layOn_58 : decode cX11_layOn 58 = .ok (.aload_n 0, 1) := by decide +kernel
theorem dX11_layOn_59 : decode cX11_layOn 59 = .ok (.invokestatic 63, 3) := by decide +kernel
theorem dX11_layOn_62 : decode cX11_layOn 62 = .ok (.invokestatic 66, 3) := by decide +kernel
theorem dX11_layOn_65 : decode cX11_layOn 65 = .ok (.iconst 4, 1) := by decide +kernel
theorem dX11_layOn_66 : decode cX11_layOn 66 = .ok (.ireturn, 1) := by decide +kernel
theorem dX11_layOn_67 : decode cX11_layOn 67 = .ok (.aload_n 0, 1) := by decide +kernel
theorem dX11_layOn_68 : decode cX11_layOn 68 = .ok (.iload_n 3, 1) := by decide +kernel
theorem dX11_layOn_69 : decode cX11_layOn 69 = .ok (.iload 5, 2) := by decide +kernel
theorem dX11_layOn_71 : decode cX11_layOn 71 = .ok (.invokestatic 44, 3) := by decide +kernel
theorem dX11_layOn_74 : decode cX11_layOn 74 = .ok (.istore 6, 2) := by decide +kernel
theorem dX11_layOn_76 : decode cX11_layOn 76 = .ok (.aload_n 0, 1) := by decide +kernel
theorem dX11_layOn_77 : decode cX11_layOn 77 = .ok (.iload_n 2, 1) := by decide +kernel
theorem dX11_layOn_78 : decode cX11_layOn 78 = .ok (.iconst 4, 1) := by decide +kernel
theorem dX11_layOn_79 : decode cX11_layOn 79 = .ok (.iadd, 1) := by decide +kernel
theorem dX11_layOn_80 : decode cX11_layOn 80 = .ok (.dup2, 1) := by decide +kernel
theorem dX11_layOn_81 : decode cX11_layOn 81 = .ok (.iaload, 1) := by decide +kernel
theorem dX11_layOn_82 : decode cX11_layOn 82 = .ok (.iload 6, 2) := by decide +kernel
theorem dX11_layOn_84 : decode cX11_layOn 84 = .ok (.isub, 1) := by decide +kernel
theorem dX11_layOn_85 : decode cX11_layOn 85 = .ok (.iastore, 1) := by decide +kernel
theorem dX11_layOn_86 : decode cX11_layOn 86 = .ok (.aload_n 0, 1) := by decide +kernel
theorem dX11_layOn_87 : decode cX11_layOn 87 = .ok (.iload_n 2, 1) := by decide +kernel
theorem dX11_layOn_88 : decode cX11_layOn 88 = .ok (.bipush 7, 2) := by decide +kernel
theorem dX11_layOn_90 : decode cX11_layOn 90 = .ok (.iadd, 1) := by decide +kernel
theorem dX11_layOn_91 : decode cX11_layOn 91 = .ok (.dup2, 1) := by decide +kernel
theorem dX11_layOn_92 : decode cX11_layOn 92 = .ok (.iaload, 1) := by decide +kernel
theorem dX11_layOn_93 : decode cX11_layOn 93 = .ok (.iload 5, 2) := by decide +kernel
theorem dX11_layOn_95 : decode cX11_layOn 95 = .ok (.iadd, 1) := by decide +kernel
theorem dX11_layOn_96 : decode cX11_layOn 96 = .ok (.iastore, 1) := by decide +kernel
theorem dX11_layOn_97 : decode cX11_layOn 97 = .ok (.aload_n 0, 1) := by decide +kernel
theorem dX11_layOn_98 : decode cX11_layOn 98 = .ok (.bipush 17, 2) := by decide +kernel
theorem dX11_layOn_100 : decode cX11_layOn 100 = .ok (.dup2, 1) := by decide +kernel
theorem dX11_layOn_101 : decode cX11_layOn 101 = .ok (.iaload, 1) := by decide +kernel
theorem dX11_layOn_102 : decode cX11_layOn 102 = .ok (.iload 5, 2) := by decide +kernel
theorem dX11_layOn_104 : decode cX11_layOn 104 = .ok (.iadd, 1) := by decide +kernel
theorem dX11_layOn_105 : decode cX11_layOn 105 = .ok (.iastore, 1) := by decide +kernel
theorem dX11_layOn_106 : decode cX11_layOn 106 = .ok (.aload_n 0, 1) := by decide +kernel
theorem dX11_layOn_107 : decode cX11_layOn 107 = .ok (.bipush 18, 2) := by decide +kernel
theorem dX11_layOn_109 : decode cX11_layOn 109 = .ok (.dup2, 1) := by decide +kernel
theorem dX11_layOn_110 : decode cX11_layOn 110 = .ok (.iaload, 1) := by decide +kernel
theorem dX11_layOn_111 : decode cX11_layOn 111 = .ok (.iload 6, 2) := by decide +kernel
theorem dX11_layOn_113 : decode cX11_layOn 113 = .ok (.iload 5, 2) := by decide +kernel
theorem dX11_layOn_115 : decode cX11_layOn 115 = .ok (.isub, 1) := by decide +kernel
theorem dX11_layOn_116 : decode cX11_layOn 116 = .ok (.iadd, 1) := by decide +kernel
theorem dX11_layOn_117 : decode cX11_layOn 117 = .ok (.iastore, 1) := by decide +kernel
theorem dX11_layOn_118 : decode cX11_layOn 118 = .ok (.aload_n 0, 1) := by decide +kernel
theorem dX11_layOn_119 : decode cX11_layOn 119 = .ok (.bipush 8, 2) := by decide +kernel
theorem dX11_layOn_121 : decode cX11_layOn 121 = .ok (.dup2, 1) := by decide +kernel
theorem dX11_layOn_122 : decode cX11_layOn 122 = .ok (.iaload, 1) := by decide +kernel
theorem dX11_layOn_123 : decode cX11_layOn 123 = .ok (.iload 5, 2) := by decide +kernel
theorem dX11_layOn_125 : decode cX11_layOn 125 = .ok (.iadd, 1) := by decide +kernel
theorem dX11_layOn_126 : decode cX11_layOn 126 = .ok (.iastore, 1) := by decide +kernel
theorem dX11_layOn_127 : decode cX11_layOn 127 = .ok (.aload_n 0, 1) := by decide +kernel
theorem dX11_layOn_128 : decode cX11_layOn 128 = .ok (.bipush 8, 2) := by decide +kernel
theorem dX11_layOn_130 : decode cX11_layOn 130 = .ok (.iaload, 1) := by decide +kernel
theorem dX11_layOn_131 : decode cX11_layOn 131 = .ok (.aload_n 0, 1) := by decide +kernel
theorem dX11_layOn_132 : decode cX11_layOn 132 = .ok (.iload_n 3, 1) := by decide +kernel
theorem dX11_layOn_133 : decode cX11_layOn 133 = .ok (.invokestatic 40, 3) := by decide +kernel
theorem dX11_layOn_136 : decode cX11_layOn 136 = .ok (.iaload, 1) := by decide +kernel
theorem dX11_layOn_137 : decode cX11_layOn 137 = .ok (.if_icmp .ne 32, 3) := by decide +kernel
theorem dX11_layOn_140 : decode cX11_layOn 140 = .ok (.aload_n 0, 1) := by decide +kernel
theorem dX11_layOn_141 : decode cX11_layOn 141 = .ok (.bipush 7, 2) := by decide +kernel
theorem dX11_layOn_143 : decode cX11_layOn 143 = .ok (.dup2, 1) := by decide +kernel
theorem dX11_layOn_144 : decode cX11_layOn 144 = .ok (.iaload, 1) := by decide +kernel
theorem dX11_layOn_145 : decode cX11_layOn 145 = .ok (.iconst 1, 1) := by decide +kernel
theorem dX11_layOn_146 : decode cX11_layOn 146 = .ok (.iadd, 1) := by decide +kernel
theorem dX11_layOn_147 : decode cX11_layOn 147 = .ok (.iastore, 1) := by decide +kernel
theorem dX11_layOn_148 : decode cX11_layOn 148 = .ok (.aload_n 0, 1) := by decide +kernel
theorem dX11_layOn_149 : decode cX11_layOn 149 = .ok (.bipush 8, 2) := by decide +kernel
theorem dX11_layOn_151 : decode cX11_layOn 151 = .ok (.iconst 0, 1) := by decide +kernel
theorem dX11_layOn_152 : decode cX11_layOn 152 = .ok (.iastore, 1) := by decide +kernel
theorem dX11_layOn_153 : decode cX11_layOn 153 = .ok (.aload_n 0, 1) := by decide +kernel
theorem dX11_layOn_154 : decode cX11_layOn 154 = .ok (.invokestatic 51, 3) := by decide +kernel
theorem dX11_layOn_157 : decode cX11_layOn 157 = .ok (.ifCond .eq 12, 3) := by decide +kernel
theorem dX11_layOn_160 : decode cX11_layOn 160 = .ok (.aload_n 0, 1) := by decide +kernel
theorem dX11_layOn_161 : decode cX11_layOn 161 = .ok (.iload_n 1, 1) := by decide +kernel
theorem dX11_layOn_162 : decode cX11_layOn 162 = .ok (.aload_n 0, 1) := by decide +kernel
theorem dX11_layOn_163 : decode cX11_layOn 163 = .ok (.invokestatic 63, 3) := by decide +kernel
theorem dX11_layOn_166 : decode cX11_layOn 166 = .ok (.invokestatic 66, 3) := by decide +kernel
theorem dX11_layOn_169 : decode cX11_layOn 169 = .ok (.iconst 0, 1) := by decide +kernel
theorem dX11_layOn_170 : decode cX11_layOn 170 = .ok (.ireturn, 1) := by decide +kernel
theorem dX11_workOn_0 : decode cX11_workOn 0 = .ok (.aload_n 0, 1) := by decide +kernel
theorem dX11_workOn_1 : decode cX11_workOn 1 = .ok (.aload_n 0, 1) := by decide +kernel
theorem dX11_workOn_2 : decode cX11_workOn 2 = .ok (.iconst 3, 1) := by decide +kernel
theorem dX11_workOn_3 : decode cX11_workOn 3 = .ok (.iaload, 1) := by decide +kernel
theorem dX11_workOn_4 : decode cX11_workOn 4 = .ok (.invokestatic 70, 3) := by decide +kernel
theorem dX11_workOn_7 : decode cX11_workOn 7 = .ok (.istore_n 2, 1) := by decide +kernel
theorem dX11_workOn_8 : decode cX11_workOn 8 = .ok (.aload_n 0, 1) := by decide +kernel
theorem dX11_workOn_9 : decode cX11_workOn 9 = .ok (.bipush 10, 2) := by decide +kernel
theorem dX11_workOn_11 : decode cX11_workOn 11 = .ok (.iaload, 1) := by decide +kernel
theorem dX11_workOn_12 : decode cX11_workOn 12 = .ok (.iconst 2, 1) := by decide +kernel
theorem dX11_workOn_13 : decode cX11_workOn 13 = .ok (.if_icmp .ne 25, 3) := by decide +kernel
theorem dX11_workOn_16 : decode cX11_workOn 16 = .ok (.aload_n 0, 1) := by decide +kernel
theorem dX11_workOn_17 : decode cX11_workOn 17 = .ok (.bipush 11, 2) := by decide +kernel
theorem dX11_workOn_19 : decode cX11_workOn 19 = .ok (.dup2, 1) := by decide +kernel
theorem dX11_workOn_20 : decode cX11_workOn 20 = .ok (.iaload, 1) := by decide +kernel
theorem dX11_workOn_21 : decode cX11_workOn 21 = .ok (.iconst 1, 1) := by decide +kernel
theorem dX11_workOn_22 : decode cX11_workOn 22 = .ok (.isub, 1) := by decide +kernel
theorem dX11_workOn_23 : decode cX11_workOn 23 = .ok (.iastore, 1) := by decide +kernel
theorem dX11_workOn_24 : decode cX11_workOn 24 = .ok (.aload_n 0, 1) := by decide +kernel
theorem dX11_workOn_25 : decode cX11_workOn 25 = .ok (.bipush 11, 2) := by decide +kernel
theorem dX11_workOn_27 : decode cX11_workOn 27 = .ok (.iaload, 1) := by decide +kernel
theorem dX11_workOn_28 : decode cX11_workOn 28 = .ok (.ifCond .ne 8, 3) := by decide +kernel
theorem dX11_workOn_31 : decode cX11_workOn 31 = .ok (.bipush 10, 2) := by decide +kernel
theorem dX11_workOn_33 : decode cX11_workOn 33 = .ok (.goto 4, 3) := by decide +kernel
theorem dX11_workOn_36 : decode cX11_workOn 36 = .ok (.iconst 0, 1) := by decide +kernel
theorem dX11_workOn_37 : decode cX11_workOn 37 = .ok (.ireturn, 1) := by decide +kernel
theorem dX11_workOn_38 : decode cX11_workOn 38 = .ok (.aload_n 0, 1) := by decide +kernel
theorem dX11_workOn_39 : decode cX11_workOn 39 = .ok (.bipush 10, 2) := by decide +kernel
theorem dX11_workOn_41 : decode cX11_workOn 41 = .ok (.iaload, 1) := by decide +kernel
theorem dX11_workOn_42 : decode cX11_workOn 42 = .ok (.iconst 1, 1) := by decide +kernel
theorem dX11_workOn_43 : decode cX11_workOn 43 = .ok (.if_icmp .ne 45, 3) := by decide +kernel
theorem dX11_workOn_46 : decode cX11_workOn 46 = .ok (.aload_n 0, 1) := by decide +kernel
theorem dX11_workOn_47 : decode cX11_workOn 47 = .ok (.invokestatic 74, 3) := by decide +kernel
theorem dX11_workOn_50 : decode cX11_workOn 50 = .ok (.ifCond .eq 8, 3) := by decide +kernel
theorem dX11_workOn_53 : decode cX11_workOn 53 = .ok (.iload_n 2, 1) := by decide +kernel
theorem dX11_workOn_54 : decode cX11_workOn 54 = .ok (.iconst 3, 1) := by decide +kernel
theorem dX11_workOn_55 : decode cX11_workOn 55 = .ok (.if_icmp .le 5, 3) := by decide +kernel
theorem dX11_workOn_58 : decode cX11_workOn 58 = .ok (.iconst 5, 1) := by decide +kernel
theorem dX11_workOn_59 : decode cX11_workOn 59 = .ok (.ireturn, 1) := by decide +kernel
theorem dX11_workOn_60 : decode cX11_workOn 60 = .ok (.aload_n 0, 1) := by decide +kernel
theorem dX11_workOn_61 : decode cX11_workOn 61 = .ok (.bipush 10, 2) := by decide +kernel
theorem dX11_workOn_63 : decode cX11_workOn 63 = .ok (.iconst 2, 1) := by decide +kernel
theorem dX11_workOn_64 : decode cX11_workOn 64 = .ok (.iastore, 1) := by decide +kernel
theorem dX11_workOn_65 : decode cX11_workOn 65 = .ok (.aload_n 0, 1) := by decide +kernel
theorem dX11_workOn_66 : decode cX11_workOn 66 = .ok (.bipush 11, 2) := by decide +kernel
theorem dX11_workOn_68 : decode cX11_workOn 68 = .ok (.aload_n 0, 1) := by decide +kernel
theorem dX11_workOn_69 : decode cX11_workOn 69 = .ok (.iconst 1, 1) := by decide +kernel
theorem dX11_workOn_70 : decode cX11_workOn 70 = .ok (.iaload, 1) := by decide +kernel
theorem dX11_workOn_71 : decode cX11_workOn 71 = .ok (.iconst 1, 1) := by decide +kernel
theorem dX11_workOn_72 : decode cX11_workOn 72 = .ok (.isub, 1) := by decide +kernel
theorem dX11_workOn_73 : decode cX11_workOn 73 = .ok (.iastore, 1) := by decide +kernel
theorem dX11_workOn_74 : decode cX11_workOn 74 = .ok (.aload_n 0, 1) := by decide +kernel
theorem dX11_workOn_75 : decode cX11_workOn 75 = .ok (.bipush 11, 2) := by decide +kernel
theorem dX11_workOn_77 : decode cX11_workOn 77 = .ok (.iaload, 1) := by decide +kernel
theorem dX11_workOn_78 : decode cX11_workOn 78 = .ok (.ifCond .ne 8, 3) := by decide +kernel
theorem dX11_workOn_81 : decode cX11_workOn 81 = .ok (.bipush 10, 2) := by decide +kernel
theorem dX11_workOn_83 : decode cX11_workOn 83 = .ok (.goto 4, 3) := by decide +kernel
theorem dX11_workOn_86 : decode cX11_workOn 86 = .ok (.iconst 0, 1) := by decide +kernel
theorem dX11_workOn_87 : decode cX11_workOn 87 = .ok (.ireturn, 1) := by decide +kernel
theorem dX11_workOn_88 : decode cX11_workOn 88 = .ok (.aload_n 0, 1) := by decide +kernel
theorem dX11_workOn_89 : decode cX11_workOn 89 = .ok (.bipush 7, 2) := by decide +kernel
theorem dX11_workOn_91 : decode cX11_workOn 91 = .ok (.iaload, 1) := by decide +kernel
theorem dX11_workOn_92 : decode cX11_workOn 92 = .ok (.invokestatic 40, 3) := by decide +kernel
theorem dX11_workOn_95 : decode cX11_workOn 95 = .ok (.istore_n 3, 1) := by decide +kernel
theorem dX11_workOn_96 : decode cX11_workOn 96 = .ok (.aload_n 0, 1) := by decide +kernel
theorem dX11_workOn_97 : decode cX11_workOn 97 = .ok (.iconst 3, 1) := by decide +kernel
theorem dX11_workOn_98 : decode cX11_workOn 98 = .ok (.iaload, 1) := by decide +kernel
theorem dX11_workOn_99 : decode cX11_workOn 99 = .ok (.aload_n 0, 1) := by decide +kernel
theorem dX11_workOn_100 : decode cX11_workOn 100 = .ok (.iload_n 3, 1) := by decide +kernel
theorem dX11_workOn_101 : decode cX11_workOn 101 = .ok (.iconst 1, 1) := by decide +kernel
theorem dX11_workOn_102 : decode cX11_workOn 102 = .ok (.iadd, 1) := by decide +kernel
theorem dX11_workOn_103 : decode cX11_workOn 103 = .ok (.iaload, 1) := by decide +kernel
theorem dX11_workOn_104 : decode cX11_workOn 104 = .ok (.if_icmp .ge 7, 3) := by decide +kernel
theorem dX11_workOn_107 : decode cX11_workOn 107 = .ok (.iconst 1, 1) := by decide +kernel
theorem dX11_workOn_108 : decode cX11_workOn 108 = .ok (.goto 39, 3) := by decide +kernel
theorem dX11_workOn_111 : decode cX11_workOn 111 = .ok (.aload_n 0, 1) := by decide +kernel
theorem dX11_workOn_112 : decode cX11_workOn 112 = .ok (.iconst 3, 1) := by decide +kernel
theorem dX11_workOn_113 : decode cX11_workOn 113 = .ok (.iaload, 1) := by decide +kernel
theorem dX11_workOn_114 : decode cX11_workOn 114 = .ok (.aload_n 0, 1) := by decide +kernel
theorem dX11_workOn_115 : decode cX11_workOn 115 = .ok (.iload_n 3, 1) := by decide +kernel
theorem dX11_workOn_116 : decode cX11_workOn 116 = .ok (.iconst 2, 1) := by decide +kernel
theorem dX11_workOn_117 : decode cX11_workOn 117 = .ok (.iadd, 1) := by decide +kernel
theorem dX11_workOn_118 : decode cX11_workOn 118 = .ok (.iaload, 1) := by decide +kernel
theorem dX11_workOn_119 : decode cX11_workOn 119 = .ok (.if_icmp .le 7, 3) := by decide +kernel
theorem dX11_workOn_122 : decode cX11_workOn 122 = .ok (.iconst 2, 1) := by decide +kernel
theorem dX11_workOn_123 : decode cX11_workOn 123 = .ok (.goto 24, 3) := by decide +kernel
theorem dX11_workOn_126 : decode cX11_workOn 126 = .ok (.iload_n 2, 1) := by decide +kernel
theorem dX11_workOn_127 : decode cX11_workOn 127 = .ok (.aload_n 0, 1) := by decide +kernel
theorem dX11_workOn_128 : decode cX11_workOn 128 = .ok (.iload_n 1, 1) := by decide +kernel
theorem dX11_workOn_129 : decode cX11_workOn 129 = .ok (.invokestatic 48, 3) := by decide +kernel
theorem dX11_workOn_132 : decode cX11_workOn 132 = .ok (.iconst 2, 1) := by decide +kernel
theorem dX11_workOn_133 : decode cX11_workOn 133 = .ok (.iadd, 1) := by decide +kernel
theorem dX11_workOn_134 : decode cX11_workOn 134 = .ok (.iaload, 1) := by decide +kernel
theorem dX11_workOn_135 : decode cX11_workOn 135 = .ok (.if_icmp .le 7, 3) := by decide +kernel
theorem dX11_workOn_138 : decode cX11_workOn 138 = .ok (.iconst 3, 1) := by decide +kernel
theorem dX11_workOn_139 : decode cX11_workOn 139 = .ok (.goto 8, 3) := by decide +kernel
theorem dX11_workOn_142 : decode cX11_workOn 142 = .ok (.aload_n 0, 1) := by decide +kernel
theorem dX11_workOn_143 : decode cX11_workOn 143 = .ok (.iload_n 1, 1) := by decide +kernel
theorem dX11_workOn_144 : decode cX11_workOn 144 = .ok (.invokestatic 77, 3) := by decide +kernel
theorem dX11_workOn_147 : decode cX11_workOn 147 = .ok (.ireturn, 1) := by decide +kernel
theorem dX11_dayOn_0 : decode cX11_dayOn 0 = .ok (.aload_n 0, 1) := by decide +kernel
theorem dX11_dayOn_1 : decode cX11_dayOn 1 = .ok (.invokestatic 51, 3) := by decide +kernel
theorem dX11_dayOn_4 : decode cX11_dayOn 4 = .ok (.istore_n 1, 1) := by decide +kernel
theorem dX11_dayOn_5 : decode cX11_dayOn 5 = .ok (.aload_n 0, 1) := by decide +kernel
theorem dX11_dayOn_6 : decode cX11_dayOn 6 = .ok (.invokestatic 80, 3) := by decide +kernel
theorem dX11_dayOn_9 : decode cX11_dayOn 9 = .ok (.aload_n 0, 1) := by decide +kernel
theorem dX11_dayOn_10 : decode cX11_dayOn 10 = .ok (.invokestatic 84, 3) := by decide +kernel
theorem dX11_dayOn_13 : decode cX11_dayOn 13 = .ok (.aload_n 0, 1) := by decide +kernel
theorem dX11_dayOn_14 : decode cX11_dayOn 14 = .ok (.invokestatic 55, 3) := by decide +kernel
theorem dX11_dayOn_17 : decode cX11_dayOn 17 = .ok (.istore_n 2, 1) := by decide +kernel
theorem dX11_dayOn_18 : decode cX11_dayOn 18 = .ok (.iconst 0, 1) := by decide +kernel
theorem dX11_dayOn_19 : decode cX11_dayOn 19 = .ok (.istore_n 3, 1) := by decide +kernel
theorem dX11_dayOn_20 : decode cX11_dayOn 20 = .ok (.iconst 0, 1) := by decide +kernel
theorem dX11_dayOn_21 : decode cX11_dayOn 21 = .ok (.istore 4, 2) := by decide +kernel
theorem dX11_dayOn_23 : decode cX11_dayOn 23 = .ok (.iconst 0, 1) := by decide +kernel
theorem dX11_dayOn_24 : decode cX11_dayOn 24 = .ok (.istore 5, 2) := by decide +kernel
theorem dX11_dayOn_26 : decode cX11_dayOn 26 = .ok (.iload 5, 2) := by decide +kernel
theorem dX11_dayOn_28 : decode cX11_dayOn 28 = .ok (.aload_n 0, 1) := by decide +kernel
theorem dX11_dayOn_29 : decode cX11_dayOn 29 = .ok (.iconst 5, 1) := by decide +kernel
theorem dX11_dayOn_30 : decode cX11_dayOn 30 = .ok (.iaload, 1) := by decide +kernel
theorem dX11_dayOn_31 : decode cX11_dayOn 31 = .ok (.if_icmp .ge 68, 3) := by decide +kernel
theorem dX11_dayOn_34 : decode cX11_dayOn 34 = .ok (.iload_n 3, 1) := by decide +kernel
theorem dX11_dayOn_35 : decode cX11_dayOn 35 = .ok (.aload_n 0, 1) := by decide +kernel
theorem dX11_dayOn_36 : decode cX11_dayOn 36 = .ok (.iload 5, 2) := by decide +kernel
theorem dX11_dayOn_38 : decode cX11_dayOn 38 = .ok (.invokestatic 48, 3) := by decide +kernel
theorem dX11_dayOn_41 : decode cX11_dayOn 41 = .ok (.iconst 5, 1) := by decide +kernel
theorem dX11_dayOn_42 : decode cX11_dayOn 42 = .ok (.iadd, 1) := by decide +kernel
theorem dX11_dayOn_43 : decode cX11_dayOn 43 = .ok (.iaload, 1) := by decide +kernel
theorem dX11_dayOn_44 : decode cX11_dayOn 44 = .ok (.ifCond .le 15, 3) := by decide +kernel
theorem dX11_dayOn_47 : decode cX11_dayOn 47 = .ok (.aload_n 0, 1) := by decide +kernel
theorem dX11_dayOn_48 : decode cX11_dayOn 48 = .ok (.iload 5, 2) := by decide +kernel
theorem dX11_dayOn_50 : decode cX11_dayOn 50 = .ok (.invokestatic 48, 3) := by decide +kernel
theorem dX11_dayOn_53 : decode cX11_dayOn 53 = .ok (.iconst 3, 1) := by decide +kernel
theorem dX11_dayOn_54 : decode cX11_dayOn 54 = .ok (.iadd, 1) := by decide +kernel
theorem dX11_dayOn_55 : decode cX11_dayOn 55 = .ok (.iaload, 1) := by decide +kernel
theorem dX11_dayOn_56 : decode cX11_dayOn 56 = .ok (.goto 4, 3) := by decide +kernel
theorem dX11_dayOn_59 : decode cX11_dayOn 59 = .ok (.iconst 0, 1) := by decide +kernel
theorem dX11_dayOn_60 : decode cX11_dayOn 60 = .ok (.iadd, 1) := by decide +kernel
theorem dX11_dayOn_61 : decode cX11_dayOn 61 = .ok (.istore_n 3, 1) := by decide +kernel
theorem dX11_dayOn_62 : decode cX11_dayOn 62 = .ok (.iload 4, 2) := by decide +kernel
theorem dX11_dayOn_64 : decode cX11_dayOn 64 = .ok (.aload_n 0, 1) := by decide +kernel
theorem dX11_dayOn_65 : decode cX11_dayOn 65 = .ok (.iload 5, 2) := by decide +kernel
theorem dX11_dayOn_67 : decode cX11_dayOn 67 = .ok (.invokestatic 48, 3) := by decide +kernel
theorem dX11_dayOn_70 : decode cX11_dayOn 70 = .ok (.iconst 5, 1) := by decide +kernel
theorem dX11_dayOn_71 : decode cX11_dayOn 71 = .ok (.iadd, 1) := by decide +kernel
theorem dX11_dayOn_72 : decode cX11_dayOn 72 = .ok (.iaload, 1) := by decide +kernel
theorem dX11_dayOn_73 : decode cX11_dayOn 73 = .ok (.iconst 2, 1) := by decide +kernel
theorem dX11_dayOn_74 : decode cX11_dayOn 74 = .ok (.if_icmp .ne 15, 3) := by decide +kernel
theorem dX11_dayOn_77 : decode cX11_dayOn 77 = .ok (.aload_n 0, 1) := by decide +kernel
theorem dX11_dayOn_78 : decode cX11_dayOn 78 = .ok (.iload 5, 2) := by decide +kernel
theorem dX11_dayOn_80 : decode cX11_dayOn 80 = .ok (.invokestatic 48, 3) := by decide +kernel
theorem dX11_dayOn_83 : decode cX11_dayOn 83 = .ok (.iconst 3, 1) := by decide +kernel
theorem dX11_dayOn_84 : decode cX11_dayOn 84 = .ok (.iadd, 1) := by decide +kernel
theorem dX11_dayOn_85 : decode cX11_dayOn 85 = .ok (.iaload, 1) := by decide +kernel
theorem dX11_dayOn_86 : decode cX11_dayOn 86 = .ok (.goto 4, 3) := by decide +kernel
theorem dX11_dayOn_89 : decode cX11_dayOn 89 = .ok (.iconst 0, 1) := by decide +kernel
theorem dX11_dayOn_90 : decode cX11_dayOn 90 = .ok (.iadd, 1) := by decide +kernel
theorem dX11_dayOn_91 : decode cX11_dayOn 91 = .ok (.istore 4, 2) := by decide +kernel
theorem dX11_dayOn_93 : decode cX11_dayOn 93 = .ok (.iinc 5 1, 3) := by decide +kernel
theorem dX11_dayOn_96 : decode cX11_dayOn 96 = .ok (.goto (-70), 3) := by decide +kernel
theorem dX11_dayOn_99 : decode cX11_dayOn 99 = .ok (.iload_n 2, 1) := by decide +kernel
theorem dX11_dayOn_100 : decode cX11_dayOn 100 = .ok (.bipush (-9), 2) := by decide +kernel
theorem dX11_dayOn_102 : decode cX11_dayOn 102 = .ok (.if_icmp .ne 16, 3) := by decide +kernel
theorem dX11_dayOn_105 : decode cX11_dayOn 105 = .ok (.iload_n 1, 1) := by decide +kernel
theorem dX11_dayOn_106 : decode cX11_dayOn 106 = .ok (.ifCond .eq 7, 3) := by decide +kernel
theorem dX11_dayOn_109 : decode cX11_dayOn 109 = .ok (.iconst 0, 1) := by decide +kernel
theorem dX11_dayOn_110 : decode cX11_dayOn 110 = .ok (.goto 13, 3) := by decide +kernel
theorem dX11_dayOn_113 : decode cX11_dayOn 113 = .ok (.bipush 6, 2) := by decide +kernel
theorem dX11_dayOn_115 : decode cX11_dayOn 115 = .ok (.goto 8, 3) := by decide +kernel
theorem dX11_dayOn_118 : decode cX11_dayOn 118 = .ok (.aload_n 0, 1) := by decide +kernel
theorem dX11_dayOn_119 : decode cX11_dayOn 119 = .ok (.iload_n 2, 1) := by decide +kernel
theorem dX11_dayOn_120 : decode cX11_dayOn 120 = .ok (.invokestatic 87, 3) := by decide +kernel
theorem dX11_dayOn_123 : decode cX11_dayOn 123 = .ok (.istore 5, 2) := by decide +kernel
theorem dX11_dayOn_125 : decode cX11_dayOn 125 = .ok (.iload 5, 2) := by decide +kernel
theorem dX11_dayOn_127 : decode cX11_dayOn 127 = .ok (.bipush 10, 2) := by decide +kernel
theorem dX11_dayOn_129 : decode cX11_dayOn 129 = .ok (.if_icmp .ne 7, 3) := by decide +kernel
theorem dX11_dayOn_132 : decode cX11_dayOn 132 = .ok (.iconst 1, 1) := by decide +kernel
theorem dX11_dayOn_133 : decode cX11_dayOn 133 = .ok (.goto 4, 3) := by decide +kernel
theorem dX11_dayOn_136 : decode cX11_dayOn 136 = .ok (.iconst 0, 1) := by decide +kernel
theorem dX11_dayOn_137 : decode cX11_dayOn 137 = .ok (.istore 6, 2) := by decide +kernel
theorem dX11_dayOn_139 : decode cX11_dayOn 139 = .ok (.aload_n 0, 1) := by decide +kernel
theorem dX11_dayOn_140 : decode cX11_dayOn 140 = .ok (.bipush 9, 2) := by decide +kernel
theorem dX11_dayOn_142 : decode cX11_dayOn 142 = .ok (.iload 6, 2) := by decide +kernel
theorem dX11_dayOn_144 : decode cX11_dayOn 144 = .ok (.ifCond .eq 7, 3) := by decide +kernel
theorem dX11_dayOn_147 : decode cX11_dayOn 147 = .ok (.iconst 0, 1) := by decide +kernel
theorem dX11_dayOn_148 : decode cX11_dayOn 148 = .ok (.goto 5, 3) := by decide +kernel
theorem dX11_dayOn_151 : decode cX11_dayOn 151 = .ok (.iload 5, 2) := by decide +kernel
theorem dX11_dayOn_153 : decode cX11_dayOn 153 = .ok (.iastore, 1) := by decide +kernel
theorem dX11_dayOn_154 : decode cX11_dayOn 154 = .ok (.aload_n 0, 1) := by decide +kernel
theorem dX11_dayOn_155 : decode cX11_dayOn 155 = .ok (.bipush 9, 2) := by decide +kernel
theorem dX11_dayOn_157 : decode cX11_dayOn 157 = .ok (.iaload, 1) := by decide +kernel
theorem dX11_dayOn_158 : decode cX11_dayOn 158 = .ok (.i2l, 1) := by decide +kernel
theorem dX11_dayOn_159 : decode cX11_dayOn 159 = .ok (.lconst 1, 1) := by decide +kernel
theorem dX11_dayOn_160 : decode cX11_dayOn 160 = .ok (.ldc2_w 90, 3) := by decide +kernel
theorem dX11_dayOn_163 : decode cX11_dayOn 163 = .ok (.invokestatic 36, 3) := by decide +kernel
theorem dX11_dayOn_166 : decode cX11_dayOn 166 = .ok (.ifCond .ne 11, 3) := by decide +kernel
theorem dX11_dayOn_169 : decode cX11_dayOn 169 = .ok (.aload_n 0, 1) := by decide +kernel
theorem dX11_dayOn_170 : decode cX11_dayOn 170 = .ok (.bipush 9, 2) := by decide +kernel
theorem dX11_dayOn_172 : decode cX11_dayOn 172 = .ok (.iaload, 1) := by decide +kernel
theorem dX11_dayOn_173 : decode cX11_dayOn 173 = .ok (.iconst 5, 1) := by decide +kernel
theorem dX11_dayOn_174 : decode cX11_dayOn 174 = .ok (.if_icmp .ne 7, 3) := by decide +kernel
theorem dX11_dayOn_177 : decode cX11_dayOn 177 = .ok (.iconst 1, 1) := by decide +kernel
theorem dX11_dayOn_178 : decode cX11_dayOn 178 = .ok (.goto 4, 3) := by decide +kernel
theorem dX11_dayOn_181 : decode cX11_dayOn 181 = .ok (.iconst 0, 1) := by decide +kernel
theorem dX11_dayOn_182 : decode cX11_dayOn 182 = .ok (.istore 7, 2) := by decide +kernel
theorem dX11_dayOn_184 : decode cX11_dayOn 184 = .ok (.aload_n 0, 1) := by decide +kernel
theorem dX11_dayOn_185 : decode cX11_dayOn 185 = .ok (.bipush 19, 2) := by decide +kernel
theorem dX11_dayOn_187 : decode cX11_dayOn 187 = .ok (.dup2, 1) := by decide +kernel
theorem dX11_dayOn_188 : decode cX11_dayOn 188 = .ok (.iaload, 1) := by decide +kernel
theorem dX11_dayOn_189 : decode cX11_dayOn 189 = .ok (.iload_n 3, 1) := by decide +kernel
theorem dX11_dayOn_190 : decode cX11_dayOn 190 = .ok (.iadd, 1) := by decide +kernel
theorem dX11_dayOn_191 : decode cX11_dayOn 191 = .ok (.iastore, 1) := by decide +kernel
theorem dX11_dayOn_192 : decode cX11_dayOn 192 = .ok (.aload_n 0, 1) := by decide +kernel
theorem dX11_dayOn_193 : decode cX11_dayOn 193 = .ok (.bipush 20, 2) := by decide +kernel
theorem dX11_dayOn_195 : decode cX11_dayOn 195 = .ok (.dup2, 1) := by decide +kernel
theorem dX11_dayOn_196 : decode cX11_dayOn 196 = .ok (.iaload, 1) := by decide +kernel
theorem dX11_dayOn_197 : decode cX11_dayOn 197 = .ok (.iload 4, 2) := by decide +kernel
theorem dX11_dayOn_199 : decode cX11_dayOn 199 = .ok (.iload 7, 2) := by decide +kernel
theorem dX11_dayOn_201 : decode cX11_dayOn 201 = .ok (.ifCond .eq 14, 3) := by decide +kernel
theorem dX11_dayOn_204 : decode cX11_dayOn 204 = .ok (.aload_n 0, 1) := by decide +kernel
theorem dX11_dayOn_205 : decode cX11_dayOn 205 = .ok (.iload_n 2, 1) := by decide +kernel
theorem dX11_dayOn_206 : decode cX11_dayOn 206 = .ok (.invokestatic 48, 3) := by decide +kernel
theorem dX11_dayOn_209 : decode cX11_dayOn 209 = .ok (.iconst 3, 1) := by decide +kernel
theorem dX11_dayOn_210 : decode cX11_dayOn 210 = .ok (.iadd, 1) := by decide +kernel
theorem dX11_dayOn_211 : decode cX11_dayOn 211 = .ok (.iaload, 1) := by decide +kernel
theorem dX11_dayOn_212 : decode cX11_dayOn 212 = .ok (.goto 4, 3) := by decide +kernel
theorem dX11_dayOn_215 : decode cX11_dayOn 215 = .ok (.iconst 0, 1) := by decide +kernel
theorem dX11_dayOn_216 : decode cX11_dayOn 216 = .ok (.iadd, 1) := by decide +kernel
theorem dX11_dayOn_217 : decode cX11_dayOn 217 = .ok (.iadd, 1) := by decide +kernel
theorem dX11_dayOn_218 : decode cX11_dayOn 218 = .ok (.iastore, 1) := by decide +kernel
theorem dX11_dayOn_219 : decode cX11_dayOn 219 = .ok (.iconst 0, 1) := by decide +kernel
theorem dX11_dayOn_220 : decode cX11_dayOn 220 = .ok (.istore 8, 2) := by decide +kernel
theorem dX11_dayOn_222 : decode cX11_dayOn 222 = .ok (.iload 8, 2) := by decide +kernel
theorem dX11_dayOn_224 : decode cX11_dayOn 224 = .ok (.aload_n 0, 1) := by decide +kernel
theorem dX11_dayOn_225 : decode cX11_dayOn 225 = .ok (.iconst 0, 1) := by decide +kernel
theorem dX11_dayOn_226 : decode cX11_dayOn 226 = .ok (.iaload, 1) := by decide +kernel
theorem dX11_dayOn_227 : decode cX11_dayOn 227 = .ok (.if_icmp .ge 34, 3) := by decide +kernel
theorem dX11_dayOn_230 : decode cX11_dayOn 230 = .ok (.aload_n 0, 1) := by decide +kernel
theorem dX11_dayOn_231 : decode cX11_dayOn 231 = .ok (.bipush 13, 2) := by decide +kernel
theorem dX11_dayOn_233 : decode cX11_dayOn 233 = .ok (.iload 8, 2) := by decide +kernel
theorem dX11_dayOn_235 : decode cX11_dayOn 235 = .ok (.iadd, 1) := by decide +kernel
theorem dX11_dayOn_236 : decode cX11_dayOn 236 = .ok (.dup2, 1) := by decide +kernel
theorem dX11_dayOn_237 : decode cX11_dayOn 237 = .ok (.iaload, 1) := by decide +kernel
theorem dX11_dayOn_238 : decode cX11_dayOn 238 = .ok (.aload_n 0, 1) := by decide +kernel
theorem dX11_dayOn_239 : decode cX11_dayOn 239 = .ok (.bipush 13, 2) := by decide +kernel
theorem dX11_dayOn_241 : decode cX11_dayOn 241 = .ok (.iload 8, 2) := by decide +kernel
theorem dX11_dayOn_243 : decode cX11_dayOn 243 = .ok (.iadd, 1) := by decide +kernel
theorem dX11_dayOn_244 : decode cX11_dayOn 244 = .ok (.iaload, 1) := by decide +kernel
theorem dX11_dayOn_245 : decode cX11_dayOn 245 = .ok (.ifCond .le 7, 3) := by decide +kernel
theorem dX11_dayOn_248 : decode cX11_dayOn 248 = .ok (.iconst 1, 1) := by decide +kernel
theorem dX11_dayOn_249 : decode cX11_dayOn 249 = .ok (.goto 4, 3) := by decide +kernel
theorem dX11_dayOn_252 : decode cX11_dayOn 252 = .ok (.iconst 0, 1) := by decide +kernel
theorem dX11_dayOn_253 : decode cX11_dayOn 253 = .ok (.isub, 1) := by decide +kernel
theorem dX11_dayOn_254 : decode cX11_dayOn 254 = .ok (.iastore, 1) := by decide +kernel
theorem dX11_dayOn_255 : decode cX11_dayOn 255 = .ok (.iinc 8 1, 3) := by decide +kernel
theorem dX11_dayOn_258 : decode cX11_dayOn 258 = .ok (.goto (-36), 3) := by decide +kernel
theorem dX11_dayOn_261 : decode cX11_dayOn 261 = .ok (.iload 6, 2) := by decide +kernel
theorem dX11_dayOn_263 : decode cX11_dayOn 263 = .ok (.ifCond .eq 20, 3) := by decide +kernel
theorem dX11_dayOn_266 : decode cX11_dayOn 266 = .ok (.aload_n 0, 1) := by decide +kernel
theorem dX11_dayOn_267 : decode cX11_dayOn 267 = .ok (.bipush 10, 2) := by decide +kernel
theorem dX11_dayOn_269 : decode cX11_dayOn 269 = .ok (.iconst 0, 1) := by decide +kernel
theorem dX11_dayOn_270 : decode cX11_dayOn 270 = .ok (.iastore, 1) := by decide +kernel
theorem dX11_dayOn_271 : decode cX11_dayOn 271 = .ok (.aload_n 0, 1) := by decide +kernel
theorem dX11_dayOn_272 : decode cX11_dayOn 272 = .ok (.bipush 12, 2) := by decide +kernel
theorem dX11_dayOn_274 : decode cX11_dayOn 274 = .ok (.dup2, 1) := by decide +kernel
theorem dX11_dayOn_275 : decode cX11_dayOn 275 = .ok (.iaload, 1) := by decide +kernel
theorem dX11_dayOn_276 : decode cX11_dayOn 276 = .ok (.iconst 1, 1) := by decide +kernel
theorem dX11_dayOn_277 : decode cX11_dayOn 277 = .ok (.iadd, 1) := by decide +kernel
theorem dX11_dayOn_278 : decode cX11_dayOn 278 = .ok (.iastore, 1) := by decide +kernel
theorem dX11_dayOn_279 : decode cX11_dayOn 279 = .ok (.aload_n 0, 1) := by decide +kernel
theorem dX11_dayOn_280 : decode cX11_dayOn 280 = .ok (.invokestatic 92, 3) := by decide +kernel
theorem dX11_dayOn_283 : decode cX11_dayOn 283 = .ok (.aload_n 0, 1) := by decide +kernel
theorem dX11_dayOn_284 : decode cX11_dayOn 284 = .ok (.iconst 3, 1) := by decide +kernel
theorem dX11_dayOn_285 : decode cX11_dayOn 285 = .ok (.dup2, 1) := by decide +kernel
theorem dX11_dayOn_286 : decode cX11_dayOn 286 = .ok (.iaload, 1) := by decide +kernel
theorem dX11_dayOn_287 : decode cX11_dayOn 287 = .ok (.iconst 1, 1) := by decide +kernel
theorem dX11_dayOn_288 : decode cX11_dayOn 288 = .ok (.iadd, 1) := by decide +kernel
theorem dX11_dayOn_289 : decode cX11_dayOn 289 = .ok (.iastore, 1) := by decide +kernel
theorem dX11_dayOn_290 : decode cX11_dayOn 290 = .ok (.return_, 1) := by decide +kernel
theorem dX11_daysOn_0 : decode cX11_daysOn 0 = .ok (.aload_n 0, 1) := by decide +kernel
theorem dX11_daysOn_1 : decode cX11_daysOn 1 = .ok (.bipush 17, 2) := by decide +kernel
theorem dX11_daysOn_3 : decode cX11_daysOn 3 = .ok (.iaload, 1) := by decide +kernel
theorem dX11_daysOn_4 : decode cX11_daysOn 4 = .ok (.istore_n 2, 1) := by decide +kernel
theorem dX11_daysOn_5 : decode cX11_daysOn 5 = .ok (.iconst 0, 1) := by decide +kernel
theorem dX11_daysOn_6 : decode cX11_daysOn 6 = .ok (.istore_n 3, 1) := by decide +kernel
theorem dX11_daysOn_7 : decode cX11_daysOn 7 = .ok (.iload_n 3, 1) := by decide +kernel
theorem dX11_daysOn_8 : decode cX11_daysOn 8 = .ok (.iload_n 1, 1) := by decide +kernel
theorem dX11_daysOn_9 : decode cX11_daysOn 9 = .ok (.if_icmp .ge 13, 3) := by decide +kernel
theorem dX11_daysOn_12 : decode cX11_daysOn 12 = .ok (.aload_n 0, 1) := by decide +kernel
theorem dX11_daysOn_13 : decode cX11_daysOn 13 = .ok (.invokestatic 95, 3) := by decide +kernel
theorem dX11_daysOn_16 : decode cX11_daysOn 16 = .ok (.iinc 3 1, 3) := by decide +kernel
theorem dX11_daysOn_19 : decode cX11_daysOn 19 = .ok (.goto (-12), 3) := by decide +kernel
theorem dX11_daysOn_22 : decode cX11_daysOn 22 = .ok (.aload_n 0, 1) := by decide +kernel
theorem dX11_daysOn_23 : decode cX11_daysOn 23 = .ok (.bipush 17, 2) := by decide +kernel
theorem dX11_daysOn_25 : decode cX11_daysOn 25 = .ok (.iaload, 1) := by decide +kernel
theorem dX11_daysOn_26 : decode cX11_daysOn 26 = .ok (.iload_n 2, 1) := by decide +kernel
theorem dX11_daysOn_27 : decode cX11_daysOn 27 = .ok (.isub, 1) := by decide +kernel
theorem dX11_daysOn_28 : decode cX11_daysOn 28 = .ok (.ireturn, 1) := by decide +kernel
theorem dX11_canTake_0 : decode cX11_canTake 0 = .ok (.iload_n 1, 1) := by decide +kernel
theorem dX11_canTake_1 : decode cX11_canTake 1 = .ok (.invokestatic 48, 3) := by decide +kernel
theorem dX11_canTake_4 : decode cX11_canTake 4 = .ok (.istore_n 3, 1) := by decide +kernel
theorem dX11_canTake_5 : decode cX11_canTake 5 = .ok (.aload_n 0, 1) := by decide +kernel
theorem dX11_canTake_6 : decode cX11_canTake 6 = .ok (.iload_n 3, 1) := by decide +kernel
theorem dX11_canTake_7 : decode cX11_canTake 7 = .ok (.iconst 5, 1) := by decide +kernel
theorem dX11_canTake_8 : decode cX11_canTake 8 = .ok (.iadd, 1) := by decide +kernel
theorem dX11_canTake_9 : decode cX11_canTake 9 = .ok (.iaload, 1) := by decide +kernel
theorem dX11_canTake_10 : decode cX11_canTake 10 = .ok (.ifCond .ne 27, 3) := by decide +kernel
theorem dX11_canTake_13 : decode cX11_canTake 13 = .ok (.aload_n 0, 1) := by decide +kernel
theorem dX11_canTake_14 : decode cX11_canTake 14 = .ok (.iconst 2, 1) := by decide +kernel
theorem dX11_canTake_15 : decode cX11_canTake 15 = .ok (.iaload, 1) := by decide +kernel
theorem dX11_canTake_16 : decode cX11_canTake 16 = .ok (.iload_n 2, 1) := by decide +kernel
theorem dX11_canTake_17 : decode cX11_canTake 17 = .ok (.if_icmp .lt 20, 3) := by decide +kernel
theorem dX11_canTake_20 : decode cX11_canTake 20 = .ok (.aload_n 0, 1) := by decide +kernel
theorem dX11_canTake_21 : decode cX11_canTake 21 = .ok (.iload_n 3, 1) := by decide +kernel
theorem dX11_canTake_22 : decode cX11_canTake 22 = .ok (.iaload, 1) := by decide +kernel
theorem dX11_canTake_23 : decode cX11_canTake 23 = .ok (.aload_n 0, 1) := by decide +kernel
theorem dX11_canTake_24 : decode cX11_canTake 24 = .ok (.iload_n 3, 1) := by decide +kernel
theorem dX11_canTake_25 : decode cX11_canTake 25 = .ok (.iconst 4, 1) := by decide +kernel
theorem dX11_canTake_26 : decode cX11_canTake 26 = .ok (.iadd, 1) := by decide +kernel
theorem dX11_canTake_27 : decode cX11_canTake 27 = .ok (.iaload, 1) := by decide +kernel
theorem dX11_canTake_28 : decode cX11_canTake 28 = .ok (.isub, 1) := by decide +kernel
theorem dX11_canTake_29 : decode cX11_canTake 29 = .ok (.iload_n 2, 1) := by decide +kernel
theorem dX11_canTake_30 : decode cX11_canTake 30 = .ok (.if_icmp .lt 7, 3) := by decide +kernel
theorem dX11_canTake_33 : decode cX11_canTake 33 = .ok (.iconst 1, 1) := by decide +kernel
theorem dX11_canTake_34 : decode cX11_canTake 34 = .ok (.goto 4, 3) := by decide +kernel
theorem dX11_canTake_37 : decode cX11_canTake 37 = .ok (.iconst 0, 1) := by decide +kernel
theorem dX11_canTake_38 : decode cX11_canTake 38 = .ok (.ireturn, 1) := by decide +kernel
theorem dX11_takeOn_0 : decode cX11_takeOn 0 = .ok (.aload_n 0, 1) := by decide +kernel
theorem dX11_takeOn_1 : decode cX11_takeOn 1 = .ok (.iconst 2, 1) := by decide +kernel
theorem dX11_takeOn_2 : decode cX11_takeOn 2 = .ok (.dup2, 1) := by decide +kernel
theorem dX11_takeOn_3 : decode cX11_takeOn 3 = .ok (.iaload, 1) := by decide +kernel
theorem dX11_takeOn_4 : decode cX11_takeOn 4 = .ok (.iload_n 2, 1) := by decide +kernel
theorem dX11_takeOn_5 : decode cX11_takeOn 5 = .ok (.isub, 1) := by decide +kernel
theorem dX11_takeOn_6 : decode cX11_takeOn 6 = .ok (.iastore, 1) := by decide +kernel
theorem dX11_takeOn_7 : decode cX11_takeOn 7 = .ok (.aload_n 0, 1) := by decide +kernel
theorem dX11_takeOn_8 : decode cX11_takeOn 8 = .ok (.iload_n 1, 1) := by decide +kernel
theorem dX11_takeOn_9 : decode cX11_takeOn 9 = .ok (.invokestatic 48, 3) := by decide +kernel
theorem dX11_takeOn_12 : decode cX11_takeOn 12 = .ok (.iconst 4, 1) := by decide +kernel
theorem dX11_takeOn_13 : decode cX11_takeOn 13 = .ok (.iadd, 1) := by decide +kernel
theorem dX11_takeOn_14 : decode cX11_takeOn 14 = .ok (.dup2, 1) := by decide +kernel
theorem dX11_takeOn_15 : decode cX11_takeOn 15 = .ok (.iaload, 1) := by decide +kernel
theorem dX11_takeOn_16 : decode cX11_takeOn 16 = .ok (.iload_n 2, 1) := by decide +kernel
theorem dX11_takeOn_17 : decode cX11_takeOn 17 = .ok (.iadd, 1) := by decide +kernel
theorem dX11_takeOn_18 : decode cX11_takeOn 18 = .ok (.iastore, 1) := by decide +kernel
theorem dX11_takeOn_19 : decode cX11_takeOn 19 = .ok (.return_, 1) := by decide +kernel
theorem dX11_canSend_0 : decode cX11_canSend 0 = .ok (.aload_n 0, 1) := by decide +kernel
theorem dX11_canSend_1 : decode cX11_canSend 1 = .ok (.iload_n 1, 1) := by decide +kernel
theorem dX11_canSend_2 : decode cX11_canSend 2 = .ok (.invokestatic 48, 3) := by decide +kernel
theorem dX11_canSend_5 : decode cX11_canSend 5 = .ok (.iconst 5, 1) := by decide +kernel
theorem dX11_canSend_6 : decode cX11_canSend 6 = .ok (.iadd, 1) := by decide +kernel
theorem dX11_canSend_7 : decode cX11_canSend 7 = .ok (.iaload, 1) := by decide +kernel
theorem dX11_canSend_8 : decode cX11_canSend 8 = .ok (.ifCond .ne 14, 3) := by decide +kernel
theorem dX11_canSend_11 : decode cX11_canSend 11 = .ok (.aload_n 0, 1) := by decide +kernel
theorem dX11_canSend_12 : decode cX11_canSend 12 = .ok (.invokestatic 51, 3) := by decide +kernel
theorem dX11_canSend_15 : decode cX11_canSend 15 = .ok (.ifCond .ne 7, 3) := by decide +kernel
theorem dX11_canSend_18 : decode cX11_canSend 18 = .ok (.iconst 1, 1) := by decide +kernel
theorem dX11_canSend_19 : decode cX11_canSend 19 = .ok (.goto 4, 3) := by decide +kernel
theorem dX11_canSend_22 : decode cX11_canSend 22 = .ok (.iconst 0, 1) := by decide +kernel
theorem dX11_canSend_23 : decode cX11_canSend 23 = .ok (.ireturn, 1) := by decide +kernel
theorem dX11_sendOn_0 : decode cX11_sendOn 0 = .ok (.aload_n 0, 1) := by decide +kernel
theorem dX11_sendOn_1 : decode cX11_sendOn 1 = .ok (.iload_n 1, 1) := by decide +kernel
theorem dX11_sendOn_2 : decode cX11_sendOn 2 = .ok (.invokestatic 48, 3) := by decide +kernel
theorem dX11_sendOn_5 : decode cX11_sendOn 5 = .ok (.iconst 5, 1) := by decide +kernel
theorem dX11_sendOn_6 : decode cX11_sendOn 6 = .ok (.iadd, 1) := by decide +kernel
theorem dX11_sendOn_7 : decode cX11_sendOn 7 = .ok (.iconst 1, 1) := by decide +kernel
theorem dX11_sendOn_8 : decode cX11_sendOn 8 = .ok (.iastore, 1) := by decide +kernel
theorem dX11_sendOn_9 : decode cX11_sendOn 9 = .ok (.aload_n 0, 1) := by decide +kernel
theorem dX11_sendOn_10 : decode cX11_sendOn 10 = .ok (.iload_n 1, 1) := by decide +kernel
theorem dX11_sendOn_11 : decode cX11_sendOn 11 = .ok (.invokestatic 48, 3) := by decide +kernel
theorem dX11_sendOn_14 : decode cX11_sendOn 14 = .ok (.bipush 6, 2) := by decide +kernel
theorem dX11_sendOn_16 : decode cX11_sendOn 16 = .ok (.iadd, 1) := by decide +kernel
theorem dX11_sendOn_17 : decode cX11_sendOn 17 = .ok (.aload_n 0, 1) := by decide +kernel
theorem dX11_sendOn_18 : decode cX11_sendOn 18 = .ok (.bipush 7, 2) := by decide +kernel
theorem dX11_sendOn_20 : decode cX11_sendOn 20 = .ok (.iaload, 1) := by decide +kernel
theorem dX11_sendOn_21 : decode cX11_sendOn 21 = .ok (.iconst 1, 1) := by decide +kernel
theorem dX11_sendOn_22 : decode cX11_sendOn 22 = .ok (.iadd, 1) := by decide +kernel
theorem dX11_sendOn_23 : decode cX11_sendOn 23 = .ok (.iastore, 1) := by decide +kernel
theorem dX11_sendOn_24 : decode cX11_sendOn 24 = .ok (.aload_n 0, 1) := by decide +kernel
theorem dX11_sendOn_25 : decode cX11_sendOn 25 = .ok (.bipush 7, 2) := by decide +kernel
theorem dX11_sendOn_27 : decode cX11_sendOn 27 = .ok (.iaload, 1) := by decide +kernel
theorem dX11_sendOn_28 : decode cX11_sendOn 28 = .ok (.iconst 1, 1) := by decide +kernel
theorem dX11_sendOn_29 : decode cX11_sendOn 29 = .ok (.iadd, 1) := by decide +kernel
theorem dX11_sendOn_30 : decode cX11_sendOn 30 = .ok (.ireturn, 1) := by decide +kernel
theorem dX11_canRecall_0 : decode cX11_canRecall 0 = .ok (.aload_n 0, 1) := by decide +kernel
theorem dX11_canRecall_1 : decode cX11_canRecall 1 = .ok (.iload_n 1, 1) := by decide +kernel
theorem dX11_canRecall_2 : decode cX11_canRecall 2 = .ok (.invokestatic 48, 3) := by decide +kernel
theorem dX11_canRecall_5 : decode cX11_canRecall 5 = .ok (.iconst 5, 1) := by decide +kernel
theorem dX11_canRecall_6 : decode cX11_canRecall 6 = .ok (.iadd, 1) := by decide +kernel
theorem dX11_canRecall_7 : decode cX11_canRecall 7 = .ok (.iaload, 1) := by decide +kernel
theorem dX11_canRecall_8 : decode cX11_canRecall 8 = .ok (.i2l, 1) := by decide +kernel
theorem dX11_canRecall_9 : decode cX11_canRecall 9 = .ok (.ldc2_w 98, 3) := by decide +kernel
theorem dX11_canRecall_12 : decode cX11_canRecall 12 = .ok (.ldc2_w 90, 3) := by decide +kernel
theorem dX11_canRecall_15 : decode cX11_canRecall 15 = .ok (.invokestatic 36, 3) := by decide +kernel
theorem dX11_canRecall_18 : decode cX11_canRecall 18 = .ok (.ireturn, 1) := by decide +kernel
theorem dX11_recallOn_0 : decode cX11_recallOn 0 = .ok (.aload_n 0, 1) := by decide +kernel
theorem dX11_recallOn_1 : decode cX11_recallOn 1 = .ok (.iload_n 1, 1) := by decide +kernel
theorem dX11_recallOn_2 : decode cX11_recallOn 2 = .ok (.invokestatic 48, 3) := by decide +kernel
theorem dX11_recallOn_5 : decode cX11_recallOn 5 = .ok (.iconst 5, 1) := by decide +kernel
theorem dX11_recallOn_6 : decode cX11_recallOn 6 = .ok (.iadd, 1) := by decide +kernel
theorem dX11_recallOn_7 : decode cX11_recallOn 7 = .ok (.iaload, 1) := by decide +kernel
theorem dX11_recallOn_8 : decode cX11_recallOn 8 = .ok (.iconst 3, 1) := by decide +kernel
theorem dX11_recallOn_9 : decode cX11_recallOn 9 = .ok (.if_icmp .ne 15, 3) := by decide +kernel
theorem dX11_recallOn_12 : decode cX11_recallOn 12 = .ok (.aload_n 0, 1) := by decide +kernel
theorem dX11_recallOn_13 : decode cX11_recallOn 13 = .ok (.bipush 10, 2) := by decide +kernel
theorem dX11_recallOn_15 : decode cX11_recallOn 15 = .ok (.iaload, 1) := by decide +kernel
theorem dX11_recallOn_16 : decode cX11_recallOn 16 = .ok (.iconst 2, 1) := by decide +kernel
theorem dX11_recallOn_17 : decode cX11_recallOn 17 = .ok (.if_icmp .ne 7, 3) := by decide +kernel
theorem dX11_recallOn_20 : decode cX11_recallOn 20 = .ok (.aload_n 0, 1) := by decide +kernel
theorem dX11_recallOn_21 : decode cX11_recallOn 21 = .ok (.invokestatic 92, 3) := by decide +kernel
theorem dX11_recallOn_24 : decode cX11_recallOn 24 = .ok (.aload_n 0, 1) := by decide +kernel
theorem dX11_recallOn_25 : decode cX11_recallOn 25 = .ok (.iload_n 1, 1) := by decide +kernel
theorem dX11_recallOn_26 : decode cX11_recallOn 26 = .ok (.aload_n 0, 1) := by decide +kernel
theorem dX11_recallOn_27 : decode cX11_recallOn 27 = .ok (.invokestatic 63, 3) := by decide +kernel
theorem dX11_recallOn_30 : decode cX11_recallOn 30 = .ok (.invokestatic 66, 3) := by decide +kernel
theorem dX11_recallOn_33 : decode cX11_recallOn 33 = .ok (.aload_n 0, 1) := by decide +kernel
theorem dX11_recallOn_34 : decode cX11_recallOn 34 = .ok (.iload_n 1, 1) := by decide +kernel
theorem dX11_recallOn_35 : decode cX11_recallOn 35 = .ok (.invokestatic 48, 3) := by decide +kernel
theorem dX11_recallOn_38 : decode cX11_recallOn 38 = .ok (.bipush 6, 2) := by decide +kernel
theorem dX11_recallOn_40 : decode cX11_recallOn 40 = .ok (.iadd, 1) := by decide +kernel
theorem dX11_recallOn_41 : decode cX11_recallOn 41 = .ok (.iaload, 1) := by decide +kernel
theorem dX11_recallOn_42 : decode cX11_recallOn 42 = .ok (.ireturn, 1) := by decide +kernel
theorem dX11_fillAndSend_0 : decode cX11_fillAndSend 0 = .ok (.aload_n 0, 1) := by decide +kernel
theorem dX11_fillAndSend_1 : decode cX11_fillAndSend 1 = .ok (.iload_n 1, 1) := by decide +kernel
theorem dX11_fillAndSend_2 : decode cX11_fillAndSend 2 = .ok (.invokestatic 48, 3) := by decide +kernel
theorem dX11_fillAndSend_5 : decode cX11_fillAndSend 5 = .ok (.iaload, 1) := by decide +kernel
theorem dX11_fillAndSend_6 : decode cX11_fillAndSend 6 = .ok (.aload_n 0, 1) := by decide +kernel
theorem dX11_fillAndSend_7 : decode cX11_fillAndSend 7 = .ok (.iload_n 1, 1) := by decide +kernel
theorem dX11_fillAndSend_8 : decode cX11_fillAndSend 8 = .ok (.invokestatic 48, 3) := by decide +kernel
theorem dX11_fillAndSend_11 : decode cX11_fillAndSend 11 = .ok (.iconst 4, 1) := by decide +kernel
theorem dX11_fillAndSend_12 : decode cX11_fillAndSend 12 = .ok (.iadd, 1) := by decide +kernel
theorem dX11_fillAndSend_13 : decode cX11_fillAndSend 13 = .ok (.iaload, 1) := by decide +kernel
theorem dX11_fillAndSend_14 : decode cX11_fillAndSend 14 = .ok (.isub, 1) := by decide +kernel
theorem dX11_fillAndSend_15 : decode cX11_fillAndSend 15 = .ok (.istore_n 2, 1) := by decide +kernel
theorem dX11_fillAndSend_16 : decode cX11_fillAndSend 16 = .ok (.aload_n 0, 1) := by decide +kernel
theorem dX11_fillAndSend_17 : decode cX11_fillAndSend 17 = .ok (.iload_n 1, 1) := by decide +kernel
theorem dX11_fillAndSend_18 : decode cX11_fillAndSend 18 = .ok (.iload_n 2, 1) := by decide +kernel
theorem dX11_fillAndSend_19 : decode cX11_fillAndSend 19 = .ok (.aload_n 0, 1) := by decide +kernel
theorem dX11_fillAndSend_20 : decode cX11_fillAndSend 20 = .ok (.iconst 2, 1) := by decide +kernel
theorem dX11_fillAndSend_21 : decode cX11_fillAndSend 21 = .ok (.iaload, 1) := by decide +kernel
theorem dX11_fillAndSend_22 : decode cX11_fillAndSend 22 = .ok (.if_icmp .ge 7, 3) := by decide +kernel
theorem dX11_fillAndSend_25 : decode cX11_fillAndSend 25 = .ok (.iload_n 2, 1) := by decide +kernel
theorem dX11_fillAndSend_26 : decode cX11_fillAndSend 26 = .ok (.goto 6, 3) := by decide +kernel
theorem dX11_fillAndSend_29 : decode cX11_fillAndSend 29 = .ok (.aload_n 0, 1) := by decide +kernel
theorem dX11_fillAndSend_30 : decode cX11_fillAndSend 30 = .ok (.iconst 2, 1) := by decide +kernel
theorem dX11_fillAndSend_31 : decode cX11_fillAndSend 31 = .ok (.iaload, 1) := by decide +kernel
theorem dX11_fillAndSend_32 : decode cX11_fillAndSend 32 = .ok (.invokestatic 100, 3) := by decide +kernel
theorem dX11_fillAndSend_35 : decode cX11_fillAndSend 35 = .ok (.aload_n 0, 1) := by decide +kernel
theorem dX11_fillAndSend_36 : decode cX11_fillAndSend 36 = .ok (.iload_n 1, 1) := by decide +kernel
theorem dX11_fillAndSend_37 : decode cX11_fillAndSend 37 = .ok (.invokestatic 103, 3) := by decide +kernel
theorem dX11_fillAndSend_40 : decode cX11_fillAndSend 40 = .ok (.pop, 1) := by decide +kernel
theorem dX11_fillAndSend_41 : decode cX11_fillAndSend 41 = .ok (.return_, 1) := by decide +kernel
theorem dX11_append_0 : decode cX11_append 0 = .ok (.aload_n 0, 1) := by decide +kernel
theorem dX11_append_1 : decode cX11_append 1 = .ok (.iload_n 1, 1) := by decide +kernel
theorem dX11_append_2 : decode cX11_append 2 = .ok (.i2l, 1) := by decide +kernel
theorem dX11_append_3 : decode cX11_append 3 = .ok (.lconst 0, 1) := by decide +kernel
theorem dX11_append_4 : decode cX11_append 4 = .ok (.ldc2_w 106, 3) := by decide +kernel
theorem dX11_append_7 : decode cX11_append 7 = .ok (.invokestatic 36, 3) := by decide +kernel
theorem dX11_append_10 : decode cX11_append 10 = .ok (.ifCond .ne 7, 3) := by decide +kernel
theorem dX11_append_13 : decode cX11_append 13 = .ok (.iconst 1, 1) := by decide +kernel
theorem dX11_append_14 : decode cX11_append 14 = .ok (.goto 18, 3) := by decide +kernel
theorem dX11_append_17 : decode cX11_append 17 = .ok (.aload_n 0, 1) := by decide +kernel
theorem dX11_append_18 : decode cX11_append 18 = .ok (.getfield 108, 3) := by decide +kernel
theorem dX11_append_21 : decode cX11_append 21 = .ok (.sipush 160, 3) := by decide +kernel
theorem dX11_append_24 : decode cX11_append 24 = .ok (.if_icmp .ne 7, 3) := by decide +kernel
theorem dX11_append_27 : decode cX11_append 27 = .ok (.iconst 2, 1) := by decide +kernel
theorem dX11_append_28 : decode cX11_append 28 = .ok (.goto 4, 3) := by decide +kernel
theorem dX11_append_31 : decode cX11_append 31 = .ok (.iconst 0, 1) := by decide +kernel
theorem dX11_append_32 : decode cX11_append 32 = .ok (.invokevirtual 111, 3) := by decide +kernel
theorem dX11_append_35 : decode cX11_append 35 = .ok (.ifCond .eq 5, 3) := by decide +kernel
theorem dX11_append_38 : decode cX11_append 38 = .ok (.iconst 0, 1) := by decide +kernel
theorem dX11_append_39 : decode cX11_append 39 = .ok (.ireturn, 1) := by decide +kernel
theorem dX11_append_40 : decode cX11_append 40 = .ok (.aload_n 0, 1) := by decide +kernel
theorem dX11_append_41 : decode cX11_append 41 = .ok (.getfield 7, 3) := by decide +kernel
theorem dX11_append_44 : decode cX11_append 44 = .ok (.aload_n 0, 1) := by decide +kernel
theorem dX11_append_45 : decode cX11_append 45 = .ok (.getfield 108, 3) := by decide +kernel
theorem dX11_append_48 : decode cX11_append 48 = .ok (.iload_n 1, 1) := by decide +kernel
theorem dX11_append_49 : decode cX11_append 49 = .ok (.iastore, 1) := by decide +kernel
theorem dX11_append_50 : decode cX11_append 50 = .ok (.aload_n 0, 1) := by decide +kernel
theorem dX11_append_51 : decode cX11_append 51 = .ok (.dup, 1) := by decide +kernel
theorem dX11_append_52 : decode cX11_append 52 = .ok (.getfield 108, 3) := by decide +kernel
theorem dX11_append_55 : decode cX11_append 55 = .ok (.iconst 1, 1) := by decide +kernel
theorem dX11_append_56 : decode cX11_append 56 = .ok (.iadd, 1) := by decide +kernel
theorem dX11_append_57 : decode cX11_append 57 = .ok (.putfield 108, 3) := by decide +kernel
theorem dX11_append_60 : decode cX11_append 60 = .ok (.aload_n 0, 1) := by decide +kernel
theorem dX11_append_61 : decode cX11_append 61 = .ok (.getfield 108, 3) := by decide +kernel
theorem dX11_append_64 : decode cX11_append 64 = .ok (.ireturn, 1) := by decide +kernel
theorem dX11_clearText_0 : decode cX11_clearText 0 = .ok (.aload_n 0, 1) := by decide +kernel
theorem dX11_clearText_1 : decode cX11_clearText 1 = .ok (.iconst 0, 1) := by decide +kernel
theorem dX11_clearText_2 : decode cX11_clearText 2 = .ok (.putfield 32, 3) := by decide +kernel
theorem dX11_clearText_5 : decode cX11_clearText 5 = .ok (.aload_n 0, 1) := by decide +kernel
theorem dX11_clearText_6 : decode cX11_clearText 6 = .ok (.getfield 108, 3) := by decide +kernel
theorem dX11_clearText_9 : decode cX11_clearText 9 = .ok (.istore_n 1, 1) := by decide +kernel
theorem dX11_clearText_10 : decode cX11_clearText 10 = .ok (.aload_n 0, 1) := by decide +kernel
theorem dX11_clearText_11 : decode cX11_clearText 11 = .ok (.iconst 0, 1) := by decide +kernel
theorem dX11_clearText_12 : decode cX11_clearText 12 = .ok (.putfield 108, 3) := by decide +kernel
theorem dX11_clearText_15 : decode cX11_clearText 15 = .ok (.iload_n 1, 1) := by decide +kernel
theorem dX11_clearText_16 : decode cX11_clearText 16 = .ok (.ireturn, 1) := by decide +kernel
theorem dX11_eat_0 : decode cX11_eat 0 = .ok (.aload_n 0, 1) := by decide +kernel
theorem dX11_eat_1 : decode cX11_eat 1 = .ok (.getfield 115, 3) := by decide +kernel
theorem dX11_eat_4 : decode cX11_eat 4 = .ok (.aload_n 0, 1) := by decide +kernel
theorem dX11_eat_5 : decode cX11_eat 5 = .ok (.getfield 108, 3) := by decide +kernel
theorem dX11_eat_8 : decode cX11_eat 8 = .ok (.if_icmp .ge 20, 3) := by decide +kernel
theorem dX11_eat_11 : decode cX11_eat 11 = .ok (.aload_n 0, 1) := by decide +kernel
theorem dX11_eat_12 : decode cX11_eat 12 = .ok (.getfield 7, 3) := by decide +kernel
theorem dX11_eat_15 : decode cX11_eat 15 = .ok (.aload_n 0, 1) := by decide +kernel
theorem dX11_eat_16 : decode cX11_eat 16 = .ok (.getfield 115, 3) := by decide +kernel
theorem dX11_eat_19 : decode cX11_eat 19 = .ok (.iaload, 1) := by decide +kernel
theorem dX11_eat_20 : decode cX11_eat 20 = .ok (.iload_n 1, 1) := by decide +kernel
theorem dX11_eat_21 : decode cX11_eat 21 = .ok (.if_icmp .ne 7, 3) := by decide +kernel
theorem dX11_eat_24 : decode cX11_eat 24 = .ok (.iconst 1, 1) := by decide +kernel
theorem dX11_eat_25 : decode cX11_eat 25 = .ok (.goto 4, 3) := by decide +kernel
theorem dX11_eat_28 : decode cX11_eat 28 = .ok (.iconst 0, 1) := by decide +kernel
theorem dX11_eat_29 : decode cX11_eat 29 = .ok (.istore_n 2, 1) := by decide +kernel
theorem dX11_eat_30 : decode cX11_eat 30 = .ok (.aload_n 0, 1) := by decide +kernel
theorem dX11_eat_31 : decode cX11_eat 31 = .ok (.dup, 1) := by decide +kernel
theorem dX11_eat_32 : decode cX11_eat 32 = .ok (.getfield 115, 3) := by decide +kernel
theorem dX11_eat_35 : decode cX11_eat 35 = .ok (.iload_n 2, 1) := by decide +kernel
theorem dX11_eat_36 : decode cX11_eat 36 = .ok (.ifCond .eq 7, 3) := by decide +kernel
theorem dX11_eat_39 : decode cX11_eat 39 = .ok (.iconst 1, 1) := by decide +kernel
theorem dX11_eat_40 : decode cX11_eat 40 = .ok (.goto 4, 3) := by decide +kernel
theorem dX11_eat_43 : decode cX11_eat 43 = .ok (.iconst 0, 1) := by decide +kernel
theorem dX11_eat_44 : decode cX11_eat 44 = .ok (.iadd, 1) := by decide +kernel
theorem dX11_eat_45 : decode cX11_eat 45 = .ok (.putfield 115, 3) := by decide +kernel
theorem dX11_eat_48 : decode cX11_eat 48 = .ok (.iload_n 2, 1) := by decide +kernel
theorem dX11_eat_49 : decode cX11_eat 49 = .ok (.ireturn, 1) := by decide +kernel
theorem dX11_put_0 : decode cX11_put 0 = .ok (.iconst 1, 1) := by decide +kernel
theorem dX11_put_1 : decode cX11_put 1 = .ok (.istore 5, 2) := by decide +kernel
theorem dX11_put_3 : decode cX11_put 3 = .ok (.iconst 1, 1) := by decide +kernel
theorem dX11_put_4 : decode cX11_put 4 = .ok (.istore 6, 2) := by decide +kernel
theorem dX11_put_6 : decode cX11_put 6 = .ok (.iload 6, 2) := by decide +kernel
theorem dX11_put_8 : decode cX11_put 8 = .ok (.iload_n 2, 1) := by decide +kernel
theorem dX11_put_9 : decode cX11_put 9 = .ok (.if_icmp .ge 16, 3) := by decide +kernel
theorem dX11_put_12 : decode cX11_put 12 = .ok (.iload 5, 2) := by decide +kernel
theorem dX11_put_14 : decode cX11_put 14 = .ok (.bipush 10, 2) := by decide +kernel
theorem dX11_put_16 : decode cX11_put 16 = .ok (.imul, 1) := by decide +kernel
theorem dX11_put_17 : decode cX11_put 17 = .ok (.istore 5, 2) := by decide +kernel
theorem dX11_put_19 : decode cX11_put 19 = .ok (.iinc 6 1, 3) := by decide +kernel
theorem dX11_put_22 : decode cX11_put 22 = .ok (.goto (-16), 3) := by decide +kernel
theorem dX11_put_25 : decode cX11_put 25 = .ok (.iconst 0, 1) := by decide +kernel
theorem dX11_put_26 : decode cX11_put 26 = .ok (.istore 6, 2) := by decide +kernel
theorem dX11_put_28 : decode cX11_put 28 = .ok (.iload 5, 2) := by decide +kernel
theorem dX11_put_30 : decode cX11_put 30 = .ok (.ifCond .le 100, 3) := by decide +kernel
theorem dX11_put_33 : decode cX11_put 33 = .ok (.aload_n 0, 1) := by decide +kernel
theorem dX11_put_34 : decode cX11_put 34 = .ok (.getfield 115, 3) := by decide +kernel
theorem dX11_put_37 : decode cX11_put 37 = .ok (.aload_n 0, 1) := by decide +kernel
theorem dX11_put_38 : decode cX11_put 38 = .ok (.getfield 108, 3) := by decide +kernel
theorem dX11_put_41 : decode cX11_put 41 = .ok (.if_icmp .ge 18, 3) := by decide +kernel
theorem dX11_put_44 : decode cX11_put 44 = .ok (.aload_n 0, 1) := by decide +kernel
theorem dX11_put_45 : decode cX11_put 45 = .ok (.getfield 7, 3) := by decide +kernel
theorem dX11_put_48 : decode cX11_put 48 = .ok (.aload_n 0, 1) := by decide +kernel
theorem dX11_put_49 : decode cX11_put 49 = .ok (.getfield 115, 3) := by decide +kernel
theorem dX11_put_52 : decode cX11_put 52 = .ok (.iaload, 1) := by decide +kernel
theorem dX11_put_53 : decode cX11_put 53 = .ok (.bipush 48, 2) := by decide +kernel
theorem dX11_put_55 : decode cX11_put 55 = .ok (.isub, 1) := by decide +kernel
theorem dX11_put_56 : decode cX11_put 56 = .ok (.goto 5, 3) := by decide +kernel
theorem dX11_put_59 : decode cX11_put 59 = .ok (.bipush (-9), 2) := by decide +kernel
theorem dX11_put_61 : decode cX11_put 61 = .ok (.istore 7, 2) := by decide +kernel
theorem dX11_put_63 : decode cX11_put 63 = .ok (.iload 6, 2) := by decide +kernel
theorem dX11_put_65 : decode cX11_put 65 = .ok (.iload 7, 2) := by decide +kernel
theorem dX11_put_67 : decode cX11_put 67 = .ok (.iload 5, 2) := by decide +kernel
theorem dX11_put_69 : decode cX11_put 69 = .ok (.imul, 1) := by decide +kernel
theorem dX11_put_70 : decode cX11_put 70 = .ok (.iadd, 1) := by decide +kernel
theorem dX11_put_71 : decode cX11_put 71 = .ok (.istore 8, 2) := by decide +kernel
theorem dX11_put_73 : decode cX11_put 73 = .ok (.iload 7, 2) := by decide +kernel
theorem dX11_put_75 : decode cX11_put 75 = .ok (.i2l, 1) := by decide +kernel
theorem dX11_put_76 : decode cX11_put 76 = .ok (.lconst 0, 1) := by decide +kernel
theorem dX11_put_77 : decode cX11_put 77 = .ok (.ldc2_w 118, 3) := by decide +kernel
theorem dX11_put_80 : decode cX11_put 80 = .ok (.invokestatic 36, 3) := by decide +kernel
theorem dX11_put_83 : decode cX11_put 83 = .ok (.ifCond .eq 21, 3) := by decide +kernel
theorem dX11_put_86 : decode cX11_put 86 = .ok (.iload 8, 2) := by decide +kernel
theorem dX11_put_88 : decode cX11_put 88 = .ok (.iload 4, 2) := by decide +kernel
theorem dX11_put_90 : decode cX11_put 90 = .ok (.if_icmp .gt 14, 3) := by decide +kernel
theorem dX11_put_93 : decode cX11_put 93 = .ok (.iload 8, 2) := by decide +kernel
theorem dX11_put_95 : decode cX11_put 95 = .ok (.iload 5, 2) := by decide +kernel
theorem dX11_put_97 : decode cX11_put 97 = .ok (.iadd, 1) := by decide +kernel
theorem dX11_put_98 : decode cX11_put 98 = .ok (.iconst 1, 1) := by decide +kernel
theorem dX11_put_99 : decode cX11_put 99 = .ok (.isub, 1) := by decide +kernel
theorem dX11_put_100 : decode cX11_put 100 = .ok (.iload_n 3, 1) := by decide +kernel
theorem dX11_put_101 : decode cX11_put 101 = .ok (.if_icmp .ge 5, 3) := by decide +kernel
theorem dX11_put_104 : decode cX11_put 104 = .ok (.iconst 0, 1) := by decide +kernel
theorem dX11_put_105 : decode cX11_put 105 = .ok (.ireturn, 1) := by decide +kernel
theorem dX11_put_106 : decode cX11_put 106 = .ok (.iload 8, 2) := by decide +kernel
theorem dX11_put_108 : decode cX11_put 108 = .ok (.istore 6, 2) := by decide +kernel
theorem dX11_put_110 : decode cX11_put 110 = .ok (.iload 5, 2) := by decide +kernel
theorem dX11_put_112 : decode cX11_put 112 = .ok (.bipush 10, 2) := by decide +kernel
theorem dX11_put_114 : decode cX11_put 114 = .ok (.idiv, 1) := by decide +kernel
theorem dX11_put_115 : decode cX11_put 115 = .ok (.istore 5, 2) := by decide +kernel
theorem dX11_put_117 : decode cX11_put 117 = .ok (.aload_n 0, 1) := by decide +kernel
theorem dX11_put_118 : decode cX11_put 118 = .ok (.dup, 1) := by decide +kernel
theorem dX11_put_119 : decode cX11_put 119 = .ok (.getfield 115, 3) := by decide +kernel
theorem dX11_put_122 : decode cX11_put 122 = .ok (.iconst 1, 1) := by decide +kernel
theorem dX11_put_123 : decode cX11_put 123 = .ok (.iadd, 1) := by decide +kernel
theorem dX11_put_124 : decode cX11_put 124 = .ok (.putfield 115, 3) := by decide +kernel
theorem dX11_put_127 : decode cX11_put 127 = .ok (.goto (-99), 3) := by decide +kernel
theorem dX11_put_130 : decode cX11_put 130 = .ok (.aload_n 0, 1) := by decide +kernel
theorem dX11_put_131 : decode cX11_put 131 = .ok (.getfield 13, 3) := by decide +kernel
theorem dX11_put_134 : decode cX11_put 134 = .ok (.iload_n 1, 1) := by decide +kernel
theorem dX11_put_135 : decode cX11_put 135 = .ok (.iload 6, 2) := by decide +kernel
theorem dX11_put_137 : decode cX11_put 137 = .ok (.iastore, 1) := by decide +kernel
theorem dX11_put_138 : decode cX11_put 138 = .ok (.iconst 1, 1) := by decide +kernel
theorem dX11_put_139 : decode cX11_put 139 = .ok (.ireturn, 1) := by decide +kernel
theorem dX11_readZone_0 : decode cX11_readZone 0 = .ok (.aload_n 0, 1) := by decide +kernel
theorem dX11_readZone_1 : decode cX11_readZone 1 = .ok (.getfield 13, 3) := by decide +kernel
theorem dX11_readZone_4 : decode cX11_readZone 4 = .ok (.iconst 4, 1) := by decide +kernel
theorem dX11_readZone_5 : decode cX11_readZone 5 = .ok (.iaload, 1) := by decide +kernel
theorem dX11_readZone_6 : decode cX11_readZone 6 = .ok (.invokestatic 40, 3) := by decide +kernel
theorem dX11_readZone_9 : decode cX11_readZone 9 = .ok (.istore_n 1, 1) := by decide +kernel
theorem dX11_readZone_10 : decode cX11_readZone 10 = .ok (.aload_n 0, 1) := by decide +kernel
theorem dX11_readZone_11 : decode cX11_readZone 11 = .ok (.iload_n 1, 1) := by decide +kernel
theorem dX11_readZone_12 : decode cX11_readZone 12 = .ok (.iconst 2, 1) := by decide +kernel
