theorem dX11_readZone_13 : decode cX11_readZone 13 = .ok (.iconst 1, 1) := by decide +kernel
theorem dX11_readZone_14 : decode cX11_readZone 14 = .ok (.bipush 99, 2) := by decide +kernel
theorem dX11_readZone_16 : decode cX11_readZone 16 = .ok (.invokevirtual 120, 3) := by decide +kernel
theorem dX11_readZone_19 : decode cX11_readZone 19 = .ok (.ifCond .eq 52, 3) := by decide +kernel
theorem dX11_readZone_22 : decode cX11_readZone 22 = .ok (.aload_n 0, 1) := by decide +kernel
theorem dX11_readZone_23 : decode cX11_readZone 23 = .ok (.iload_n 1, 1) := by decide +kernel
theorem dX11_readZone_24 : decode cX11_readZone 24 = .ok (.iconst 1, 1) := by decide +kernel
theorem dX11_readZone_25 : decode cX11_readZone 25 = .ok (.iadd, 1) := by decide +kernel
theorem dX11_readZone_26 : decode cX11_readZone 26 = .ok (.iconst 2, 1) := by decide +kernel
theorem dX11_readZone_27 : decode cX11_readZone 27 = .ok (.iconst 0, 1) := by decide +kernel
theorem dX11_readZone_28 : decode cX11_readZone 28 = .ok (.bipush 99, 2) := by decide +kernel
theorem dX11_readZone_30 : decode cX11_readZone 30 = .ok (.invokevirtual 120, 3) := by decide +kernel
theorem dX11_readZone_33 : decode cX11_readZone 33 = .ok (.ifCond .eq 38, 3) := by decide +kernel
theorem dX11_readZone_36 : decode cX11_readZone 36 = .ok (.aload_n 0, 1) := by decide +kernel
theorem dX11_readZone_37 : decode cX11_readZone 37 = .ok (.iload_n 1, 1) := by decide +kernel
theorem dX11_readZone_38 : decode cX11_readZone 38 = .ok (.iconst 2, 1) := by decide +kernel
theorem dX11_readZone_39 : decode cX11_readZone 39 = .ok (.iadd, 1) := by decide +kernel
theorem dX11_readZone_40 : decode cX11_readZone 40 = .ok (.iconst 2, 1) := by decide +kernel
theorem dX11_readZone_41 : decode cX11_readZone 41 = .ok (.aload_n 0, 1) := by decide +kernel
theorem dX11_readZone_42 : decode cX11_readZone 42 = .ok (.getfield 13, 3) := by decide +kernel
theorem dX11_readZone_45 : decode cX11_readZone 45 = .ok (.iload_n 1, 1) := by decide +kernel
theorem dX11_readZone_46 : decode cX11_readZone 46 = .ok (.iconst 1, 1) := by decide +kernel
theorem dX11_readZone_47 : decode cX11_readZone 47 = .ok (.iadd, 1) := by decide +kernel
theorem dX11_readZone_48 : decode cX11_readZone 48 = .ok (.iaload, 1) := by decide +kernel
theorem dX11_readZone_49 : decode cX11_readZone 49 = .ok (.bipush 99, 2) := by decide +kernel
theorem dX11_readZone_51 : decode cX11_readZone 51 = .ok (.invokevirtual 120, 3) := by decide +kernel
theorem dX11_readZone_54 : decode cX11_readZone 54 = .ok (.ifCond .eq 17, 3) := by decide +kernel
theorem dX11_readZone_57 : decode cX11_readZone 57 = .ok (.aload_n 0, 1) := by decide +kernel
theorem dX11_readZone_58 : decode cX11_readZone 58 = .ok (.iload_n 1, 1) := by decide +kernel
theorem dX11_readZone_59 : decode cX11_readZone 59 = .ok (.iconst 3, 1) := by decide +kernel
theorem dX11_readZone_60 : decode cX11_readZone 60 = .ok (.iadd, 1) := by decide +kernel
theorem dX11_readZone_61 : decode cX11_readZone 61 = .ok (.iconst 1, 1) := by decide +kernel
theorem dX11_readZone_62 : decode cX11_readZone 62 = .ok (.iconst 0, 1) := by decide +kernel
theorem dX11_readZone_63 : decode cX11_readZone 63 = .ok (.bipush 9, 2) := by decide +kernel
theorem dX11_readZone_65 : decode cX11_readZone 65 = .ok (.invokevirtual 120, 3) := by decide +kernel
theorem dX11_readZone_68 : decode cX11_readZone 68 = .ok (.ifCond .ne 5, 3) := by decide +kernel
theorem dX11_readZone_71 : decode cX11_readZone 71 = .ok (.iconst 0, 1) := by decide +kernel
theorem dX11_readZone_72 : decode cX11_readZone 72 = .ok (.ireturn, 1) := by decide +kernel
theorem dX11_readZone_73 : decode cX11_readZone 73 = .ok (.aload_n 0, 1) := by decide +kernel
theorem dX11_readZone_74 : decode cX11_readZone 74 = .ok (.getfield 13, 3) := by decide +kernel
theorem dX11_readZone_77 : decode cX11_readZone 77 = .ok (.iconst 4, 1) := by decide +kernel
theorem dX11_readZone_78 : decode cX11_readZone 78 = .ok (.dup2, 1) := by decide +kernel
theorem dX11_readZone_79 : decode cX11_readZone 79 = .ok (.iaload, 1) := by decide +kernel
theorem dX11_readZone_80 : decode cX11_readZone 80 = .ok (.iconst 1, 1) := by decide +kernel
theorem dX11_readZone_81 : decode cX11_readZone 81 = .ok (.iadd, 1) := by decide +kernel
theorem dX11_readZone_82 : decode cX11_readZone 82 = .ok (.iastore, 1) := by decide +kernel
theorem dX11_readZone_83 : decode cX11_readZone 83 = .ok (.iconst 1, 1) := by decide +kernel
theorem dX11_readZone_84 : decode cX11_readZone 84 = .ok (.ireturn, 1) := by decide +kernel
theorem dX11_readShip_0 : decode cX11_readShip 0 = .ok (.aload_n 0, 1) := by decide +kernel
theorem dX11_readShip_1 : decode cX11_readShip 1 = .ok (.getfield 13, 3) := by decide +kernel
theorem dX11_readShip_4 : decode cX11_readShip 4 = .ok (.iconst 5, 1) := by decide +kernel
theorem dX11_readShip_5 : decode cX11_readShip 5 = .ok (.iaload, 1) := by decide +kernel
theorem dX11_readShip_6 : decode cX11_readShip 6 = .ok (.invokestatic 48, 3) := by decide +kernel
theorem dX11_readShip_9 : decode cX11_readShip 9 = .ok (.istore_n 1, 1) := by decide +kernel
theorem dX11_readShip_10 : decode cX11_readShip 10 = .ok (.aload_n 0, 1) := by decide +kernel
theorem dX11_readShip_11 : decode cX11_readShip 11 = .ok (.iload_n 1, 1) := by decide +kernel
theorem dX11_readShip_12 : decode cX11_readShip 12 = .ok (.iconst 3, 1) := by decide +kernel
theorem dX11_readShip_13 : decode cX11_readShip 13 = .ok (.bipush 10, 2) := by decide +kernel
theorem dX11_readShip_15 : decode cX11_readShip 15 = .ok (.sipush 999, 3) := by decide +kernel
theorem dX11_readShip_18 : decode cX11_readShip 18 = .ok (.invokevirtual 120, 3) := by decide +kernel
theorem dX11_readShip_21 : decode cX11_readShip 21 = .ok (.ifCond .eq 45, 3) := by decide +kernel
theorem dX11_readShip_24 : decode cX11_readShip 24 = .ok (.aload_n 0, 1) := by decide +kernel
theorem dX11_readShip_25 : decode cX11_readShip 25 = .ok (.iload_n 1, 1) := by decide +kernel
theorem dX11_readShip_26 : decode cX11_readShip 26 = .ok (.iconst 1, 1) := by decide +kernel
theorem dX11_readShip_27 : decode cX11_readShip 27 = .ok (.iadd, 1) := by decide +kernel
theorem dX11_readShip_28 : decode cX11_readShip 28 = .ok (.iconst 2, 1) := by decide +kernel
theorem dX11_readShip_29 : decode cX11_readShip 29 = .ok (.iconst 1, 1) := by decide +kernel
theorem dX11_readShip_30 : decode cX11_readShip 30 = .ok (.bipush 20, 2) := by decide +kernel
theorem dX11_readShip_32 : decode cX11_readShip 32 = .ok (.invokevirtual 120, 3) := by decide +kernel
theorem dX11_readShip_35 : decode cX11_readShip 35 = .ok (.ifCond .eq 31, 3) := by decide +kernel
theorem dX11_readShip_38 : decode cX11_readShip 38 = .ok (.aload_n 0, 1) := by decide +kernel
theorem dX11_readShip_39 : decode cX11_readShip 39 = .ok (.iload_n 1, 1) := by decide +kernel
theorem dX11_readShip_40 : decode cX11_readShip 40 = .ok (.iconst 2, 1) := by decide +kernel
theorem dX11_readShip_41 : decode cX11_readShip 41 = .ok (.iadd, 1) := by decide +kernel
theorem dX11_readShip_42 : decode cX11_readShip 42 = .ok (.iconst 1, 1) := by decide +kernel
theorem dX11_readShip_43 : decode cX11_readShip 43 = .ok (.iconst 1, 1) := by decide +kernel
theorem dX11_readShip_44 : decode cX11_readShip 44 = .ok (.bipush 9, 2) := by decide +kernel
theorem dX11_readShip_46 : decode cX11_readShip 46 = .ok (.invokevirtual 120, 3) := by decide +kernel
theorem dX11_readShip_49 : decode cX11_readShip 49 = .ok (.ifCond .eq 17, 3) := by decide +kernel
theorem dX11_readShip_52 : decode cX11_readShip 52 = .ok (.aload_n 0, 1) := by decide +kernel
theorem dX11_readShip_53 : decode cX11_readShip 53 = .ok (.iload_n 1, 1) := by decide +kernel
theorem dX11_readShip_54 : decode cX11_readShip 54 = .ok (.iconst 3, 1) := by decide +kernel
theorem dX11_readShip_55 : decode cX11_readShip 55 = .ok (.iadd, 1) := by decide +kernel
theorem dX11_readShip_56 : decode cX11_readShip 56 = .ok (.iconst 2, 1) := by decide +kernel
theorem dX11_readShip_57 : decode cX11_readShip 57 = .ok (.iconst 1, 1) := by decide +kernel
theorem dX11_readShip_58 : decode cX11_readShip 58 = .ok (.bipush 99, 2) := by decide +kernel
theorem dX11_readShip_60 : decode cX11_readShip 60 = .ok (.invokevirtual 120, 3) := by decide +kernel
theorem dX11_readShip_63 : decode cX11_readShip 63 = .ok (.ifCond .ne 5, 3) := by decide +kernel
theorem dX11_readShip_66 : decode cX11_readShip 66 = .ok (.iconst 0, 1) := by decide +kernel
theorem dX11_readShip_67 : decode cX11_readShip 67 = .ok (.ireturn, 1) := by decide +kernel
theorem dX11_readShip_68 : decode cX11_readShip 68 = .ok (.aload_n 0, 1) := by decide +kernel
theorem dX11_readShip_69 : decode cX11_readShip 69 = .ok (.getfield 13, 3) := by decide +kernel
theorem dX11_readShip_72 : decode cX11_readShip 72 = .ok (.iconst 5, 1) := by decide +kernel
theorem dX11_readShip_73 : decode cX11_readShip 73 = .ok (.dup2, 1) := by decide +kernel
theorem dX11_readShip_74 : decode cX11_readShip 74 = .ok (.iaload, 1) := by decide +kernel
theorem dX11_readShip_75 : decode cX11_readShip 75 = .ok (.iconst 1, 1) := by decide +kernel
theorem dX11_readShip_76 : decode cX11_readShip 76 = .ok (.iadd, 1) := by decide +kernel
theorem dX11_readShip_77 : decode cX11_readShip 77 = .ok (.iastore, 1) := by decide +kernel
theorem dX11_readShip_78 : decode cX11_readShip 78 = .ok (.iconst 1, 1) := by decide +kernel
theorem dX11_readShip_79 : decode cX11_readShip 79 = .ok (.ireturn, 1) := by decide +kernel
theorem dX11_readAll_0 : decode cX11_readAll 0 = .ok (.aload_n 0, 1) := by decide +kernel
theorem dX11_readAll_1 : decode cX11_readAll 1 = .ok (.iconst 0, 1) := by decide +kernel
theorem dX11_readAll_2 : decode cX11_readAll 2 = .ok (.putfield 115, 3) := by decide +kernel
theorem dX11_readAll_5 : decode cX11_readAll 5 = .ok (.iconst 0, 1) := by decide +kernel
theorem dX11_readAll_6 : decode cX11_readAll 6 = .ok (.istore_n 1, 1) := by decide +kernel
theorem dX11_readAll_7 : decode cX11_readAll 7 = .ok (.iload_n 1, 1) := by decide +kernel
theorem dX11_readAll_8 : decode cX11_readAll 8 = .ok (.bipush 121, 2) := by decide +kernel
theorem dX11_readAll_10 : decode cX11_readAll 10 = .ok (.if_icmp .ge 16, 3) := by decide +kernel
theorem dX11_readAll_13 : decode cX11_readAll 13 = .ok (.aload_n 0, 1) := by decide +kernel
theorem dX11_readAll_14 : decode cX11_readAll 14 = .ok (.getfield 13, 3) := by decide +kernel
theorem dX11_readAll_17 : decode cX11_readAll 17 = .ok (.iload_n 1, 1) := by decide +kernel
theorem dX11_readAll_18 : decode cX11_readAll 18 = .ok (.iconst 0, 1) := by decide +kernel
theorem dX11_readAll_19 : decode cX11_readAll 19 = .ok (.iastore, 1) := by decide +kernel
theorem dX11_readAll_20 : decode cX11_readAll 20 = .ok (.iinc 1 1, 3) := by decide +kernel
theorem dX11_readAll_23 : decode cX11_readAll 23 = .ok (.goto (-16), 3) := by decide +kernel
theorem dX11_readAll_26 : decode cX11_readAll 26 = .ok (.aload_n 0, 1) := by decide +kernel
theorem dX11_readAll_27 : decode cX11_readAll 27 = .ok (.bipush 67, 2) := by decide +kernel
theorem dX11_readAll_29 : decode cX11_readAll 29 = .ok (.invokevirtual 124, 3) := by decide +kernel
theorem dX11_readAll_32 : decode cX11_readAll 32 = .ok (.ifCond .eq 38, 3) := by decide +kernel
theorem dX11_readAll_35 : decode cX11_readAll 35 = .ok (.aload_n 0, 1) := by decide +kernel
theorem dX11_readAll_36 : decode cX11_readAll 36 = .ok (.iconst 0, 1) := by decide +kernel
theorem dX11_readAll_37 : decode cX11_readAll 37 = .ok (.iconst 1, 1) := by decide +kernel
theorem dX11_readAll_38 : decode cX11_readAll 38 = .ok (.iconst 1, 1) := by decide +kernel
theorem dX11_readAll_39 : decode cX11_readAll 39 = .ok (.iconst 3, 1) := by decide +kernel
theorem dX11_readAll_40 : decode cX11_readAll 40 = .ok (.invokevirtual 120, 3) := by decide +kernel
theorem dX11_readAll_43 : decode cX11_readAll 43 = .ok (.ifCond .eq 27, 3) := by decide +kernel
theorem dX11_readAll_46 : decode cX11_readAll 46 = .ok (.aload_n 0, 1) := by decide +kernel
theorem dX11_readAll_47 : decode cX11_readAll 47 = .ok (.iconst 1, 1) := by decide +kernel
theorem dX11_readAll_48 : decode cX11_readAll 48 = .ok (.iconst 1, 1) := by decide +kernel
theorem dX11_readAll_49 : decode cX11_readAll 49 = .ok (.iconst 1, 1) := by decide +kernel
theorem dX11_readAll_50 : decode cX11_readAll 50 = .ok (.iconst 3, 1) := by decide +kernel
theorem dX11_readAll_51 : decode cX11_readAll 51 = .ok (.invokevirtual 120, 3) := by decide +kernel
theorem dX11_readAll_54 : decode cX11_readAll 54 = .ok (.ifCond .eq 16, 3) := by decide +kernel
theorem dX11_readAll_57 : decode cX11_readAll 57 = .ok (.aload_n 0, 1) := by decide +kernel
theorem dX11_readAll_58 : decode cX11_readAll 58 = .ok (.iconst 2, 1) := by decide +kernel
theorem dX11_readAll_59 : decode cX11_readAll 59 = .ok (.iconst 4, 1) := by decide +kernel
theorem dX11_readAll_60 : decode cX11_readAll 60 = .ok (.iconst 0, 1) := by decide +kernel
theorem dX11_readAll_61 : decode cX11_readAll 61 = .ok (.sipush 9999, 3) := by decide +kernel
theorem dX11_readAll_64 : decode cX11_readAll 64 = .ok (.invokevirtual 120, 3) := by decide +kernel
theorem dX11_readAll_67 : decode cX11_readAll 67 = .ok (.ifCond .ne 5, 3) := by decide +kernel
theorem dX11_readAll_70 : decode cX11_readAll 70 = .ok (.iconst 0, 1) := by decide +kernel
theorem dX11_readAll_71 : decode cX11_readAll 71 = .ok (.ireturn, 1) := by decide +kernel
theorem dX11_readAll_72 : decode cX11_readAll 72 = .ok (.aload_n 0, 1) := by decide +kernel
theorem dX11_readAll_73 : decode cX11_readAll 73 = .ok (.getfield 13, 3) := by decide +kernel
theorem dX11_readAll_76 : decode cX11_readAll 76 = .ok (.iconst 4, 1) := by decide +kernel
theorem dX11_readAll_77 : decode cX11_readAll 77 = .ok (.iaload, 1) := by decide +kernel
theorem dX11_readAll_78 : decode cX11_readAll 78 = .ok (.bipush 9, 2) := by decide +kernel
theorem dX11_readAll_80 : decode cX11_readAll 80 = .ok (.if_icmp .ge 21, 3) := by decide +kernel
theorem dX11_readAll_83 : decode cX11_readAll 83 = .ok (.aload_n 0, 1) := by decide +kernel
theorem dX11_readAll_84 : decode cX11_readAll 84 = .ok (.bipush 122, 2) := by decide +kernel
theorem dX11_readAll_86 : decode cX11_readAll 86 = .ok (.invokevirtual 124, 3) := by decide +kernel
theorem dX11_readAll_89 : decode cX11_readAll 89 = .ok (.ifCond .eq 12, 3) := by decide +kernel
theorem dX11_readAll_92 : decode cX11_readAll 92 = .ok (.aload_n 0, 1) := by decide +kernel
theorem dX11_readAll_93 : decode cX11_readAll 93 = .ok (.invokevirtual 127, 3) := by decide +kernel
theorem dX11_readAll_96 : decode cX11_readAll 96 = .ok (.ifCond .ne (-24), 3) := by decide +kernel
theorem dX11_readAll_99 : decode cX11_readAll 99 = .ok (.iconst 0, 1) := by decide +kernel
theorem dX11_readAll_100 : decode cX11_readAll 100 = .ok (.ireturn, 1) := by decide +kernel
theorem dX11_readAll_101 : decode cX11_readAll 101 = .ok (.aload_n 0, 1) := by decide +kernel
theorem dX11_readAll_102 : decode cX11_readAll 102 = .ok (.getfield 13, 3) := by decide +kernel
theorem dX11_readAll_105 : decode cX11_readAll 105 = .ok (.iconst 4, 1) := by decide +kernel
theorem dX11_readAll_106 : decode cX11_readAll 106 = .ok (.iaload, 1) := by decide +kernel
theorem dX11_readAll_107 : decode cX11_readAll 107 = .ok (.ifCond .le 31, 3) := by decide +kernel
theorem dX11_readAll_110 : decode cX11_readAll 110 = .ok (.aload_n 0, 1) := by decide +kernel
theorem dX11_readAll_111 : decode cX11_readAll 111 = .ok (.getfield 13, 3) := by decide +kernel
theorem dX11_readAll_114 : decode cX11_readAll 114 = .ok (.iconst 5, 1) := by decide +kernel
theorem dX11_readAll_115 : decode cX11_readAll 115 = .ok (.iaload, 1) := by decide +kernel
theorem dX11_readAll_116 : decode cX11_readAll 116 = .ok (.iconst 4, 1) := by decide +kernel
theorem dX11_readAll_117 : decode cX11_readAll 117 = .ok (.if_icmp .ge 21, 3) := by decide +kernel
theorem dX11_readAll_120 : decode cX11_readAll 120 = .ok (.aload_n 0, 1) := by decide +kernel
theorem dX11_readAll_121 : decode cX11_readAll 121 = .ok (.bipush 115, 2) := by decide +kernel
theorem dX11_readAll_123 : decode cX11_readAll 123 = .ok (.invokevirtual 124, 3) := by decide +kernel
theorem dX11_readAll_126 : decode cX11_readAll 126 = .ok (.ifCond .eq 12, 3) := by decide +kernel
theorem dX11_readAll_129 : decode cX11_readAll 129 = .ok (.aload_n 0, 1) := by decide +kernel
theorem dX11_readAll_130 : decode cX11_readAll 130 = .ok (.invokevirtual 131, 3) := by decide +kernel
theorem dX11_readAll_133 : decode cX11_readAll 133 = .ok (.ifCond .ne (-32), 3) := by decide +kernel
theorem dX11_readAll_136 : decode cX11_readAll 136 = .ok (.iconst 0, 1) := by decide +kernel
theorem dX11_readAll_137 : decode cX11_readAll 137 = .ok (.ireturn, 1) := by decide +kernel
theorem dX11_readAll_138 : decode cX11_readAll 138 = .ok (.aload_n 0, 1) := by decide +kernel
theorem dX11_readAll_139 : decode cX11_readAll 139 = .ok (.getfield 13, 3) := by decide +kernel
theorem dX11_readAll_142 : decode cX11_readAll 142 = .ok (.iconst 5, 1) := by decide +kernel
theorem dX11_readAll_143 : decode cX11_readAll 143 = .ok (.iaload, 1) := by decide +kernel
theorem dX11_readAll_144 : decode cX11_readAll 144 = .ok (.ifCond .eq 12, 3) := by decide +kernel
theorem dX11_readAll_147 : decode cX11_readAll 147 = .ok (.aload_n 0, 1) := by decide +kernel
theorem dX11_readAll_148 : decode cX11_readAll 148 = .ok (.bipush 119, 2) := by decide +kernel
theorem dX11_readAll_150 : decode cX11_readAll 150 = .ok (.invokevirtual 124, 3) := by decide +kernel
theorem dX11_readAll_153 : decode cX11_readAll 153 = .ok (.ifCond .ne 5, 3) := by decide +kernel
theorem dX11_readAll_156 : decode cX11_readAll 156 = .ok (.iconst 0, 1) := by decide +kernel
theorem dX11_readAll_157 : decode cX11_readAll 157 = .ok (.ireturn, 1) := by decide +kernel
theorem dX11_readAll_158 : decode cX11_readAll 158 = .ok (.aload_n 0, 1) := by decide +kernel
theorem dX11_readAll_159 : decode cX11_readAll 159 = .ok (.getfield 13, 3) := by decide +kernel
theorem dX11_readAll_162 : decode cX11_readAll 162 = .ok (.bipush 6, 2) := by decide +kernel
theorem dX11_readAll_164 : decode cX11_readAll 164 = .ok (.iaload, 1) := by decide +kernel
theorem dX11_readAll_165 : decode cX11_readAll 165 = .ok (.bipush 30, 2) := by decide +kernel
theorem dX11_readAll_167 : decode cX11_readAll 167 = .ok (.if_icmp .ge 38, 3) := by decide +kernel
theorem dX11_readAll_170 : decode cX11_readAll 170 = .ok (.aload_n 0, 1) := by decide +kernel
theorem dX11_readAll_171 : decode cX11_readAll 171 = .ok (.bipush 91, 2) := by decide +kernel
theorem dX11_readAll_173 : decode cX11_readAll 173 = .ok (.aload_n 0, 1) := by decide +kernel
theorem dX11_readAll_174 : decode cX11_readAll 174 = .ok (.getfield 13, 3) := by decide +kernel
theorem dX11_readAll_177 : decode cX11_readAll 177 = .ok (.bipush 6, 2) := by decide +kernel
theorem dX11_readAll_179 : decode cX11_readAll 179 = .ok (.iaload, 1) := by decide +kernel
theorem dX11_readAll_180 : decode cX11_readAll 180 = .ok (.iadd, 1) := by decide +kernel
theorem dX11_readAll_181 : decode cX11_readAll 181 = .ok (.iconst 1, 1) := by decide +kernel
theorem dX11_readAll_182 : decode cX11_readAll 182 = .ok (.iconst 0, 1) := by decide +kernel
theorem dX11_readAll_183 : decode cX11_readAll 183 = .ok (.bipush 9, 2) := by decide +kernel
theorem dX11_readAll_185 : decode cX11_readAll 185 = .ok (.invokevirtual 120, 3) := by decide +kernel
theorem dX11_readAll_188 : decode cX11_readAll 188 = .ok (.ifCond .eq 17, 3) := by decide +kernel
theorem dX11_readAll_191 : decode cX11_readAll 191 = .ok (.aload_n 0, 1) := by decide +kernel
theorem dX11_readAll_192 : decode cX11_readAll 192 = .ok (.getfield 13, 3) := by decide +kernel
theorem dX11_readAll_195 : decode cX11_readAll 195 = .ok (.bipush 6, 2) := by decide +kernel
theorem dX11_readAll_197 : decode cX11_readAll 197 = .ok (.dup2, 1) := by decide +kernel
theorem dX11_readAll_198 : decode cX11_readAll 198 = .ok (.iaload, 1) := by decide +kernel
theorem dX11_readAll_199 : decode cX11_readAll 199 = .ok (.iconst 1, 1) := by decide +kernel
theorem dX11_readAll_200 : decode cX11_readAll 200 = .ok (.iadd, 1) := by decide +kernel
theorem dX11_readAll_201 : decode cX11_readAll 201 = .ok (.iastore, 1) := by decide +kernel
theorem dX11_readAll_202 : decode cX11_readAll 202 = .ok (.goto (-44), 3) := by decide +kernel
theorem dX11_readAll_205 : decode cX11_readAll 205 = .ok (.aload_n 0, 1) := by decide +kernel
theorem dX11_readAll_206 : decode cX11_readAll 206 = .ok (.getfield 13, 3) := by decide +kernel
theorem dX11_readAll_209 : decode cX11_readAll 209 = .ok (.bipush 16, 2) := by decide +kernel
theorem dX11_readAll_211 : decode cX11_readAll 211 = .ok (.aload_n 0, 1) := by decide +kernel
theorem dX11_readAll_212 : decode cX11_readAll 212 = .ok (.getfield 13, 3) := by decide +kernel
theorem dX11_readAll_215 : decode cX11_readAll 215 = .ok (.iconst 2, 1) := by decide +kernel
theorem dX11_readAll_216 : decode cX11_readAll 216 = .ok (.iaload, 1) := by decide +kernel
theorem dX11_readAll_217 : decode cX11_readAll 217 = .ok (.iastore, 1) := by decide +kernel
theorem dX11_readAll_218 : decode cX11_readAll 218 = .ok (.aload_n 0, 1) := by decide +kernel
theorem dX11_readAll_219 : decode cX11_readAll 219 = .ok (.getfield 13, 3) := by decide +kernel
theorem dX11_readAll_222 : decode cX11_readAll 222 = .ok (.bipush 6, 2) := by decide +kernel
theorem dX11_readAll_224 : decode cX11_readAll 224 = .ok (.iaload, 1) := by decide +kernel
theorem dX11_readAll_225 : decode cX11_readAll 225 = .ok (.ifCond .le 18, 3) := by decide +kernel
theorem dX11_readAll_228 : decode cX11_readAll 228 = .ok (.aload_n 0, 1) := by decide +kernel
theorem dX11_readAll_229 : decode cX11_readAll 229 = .ok (.getfield 115, 3) := by decide +kernel
theorem dX11_readAll_232 : decode cX11_readAll 232 = .ok (.aload_n 0, 1) := by decide +kernel
theorem dX11_readAll_233 : decode cX11_readAll 233 = .ok (.getfield 108, 3) := by decide +kernel
theorem dX11_readAll_236 : decode cX11_readAll 236 = .ok (.if_icmp .ne 7, 3) := by decide +kernel
theorem dX11_readAll_239 : decode cX11_readAll 239 = .ok (.iconst 1, 1) := by decide +kernel
theorem dX11_readAll_240 : decode cX11_readAll 240 = .ok (.goto 4, 3) := by decide +kernel
theorem dX11_readAll_243 : decode cX11_readAll 243 = .ok (.iconst 0, 1) := by decide +kernel
theorem dX11_readAll_244 : decode cX11_readAll 244 = .ok (.ireturn, 1) := by decide +kernel
theorem dX11_errorPosition_0 : decode cX11_errorPosition 0 = .ok (.aload_n 0, 1) := by decide +kernel
theorem dX11_errorPosition_1 : decode cX11_errorPosition 1 = .ok (.iconst 0, 1) := by decide +kernel
theorem dX11_errorPosition_2 : decode cX11_errorPosition 2 = .ok (.putfield 32, 3) := by decide +kernel
theorem dX11_errorPosition_5 : decode cX11_errorPosition 5 = .ok (.aload_n 0, 1) := by decide +kernel
theorem dX11_errorPosition_6 : decode cX11_errorPosition 6 = .ok (.invokevirtual 134, 3) := by decide +kernel
theorem dX11_errorPosition_9 : decode cX11_errorPosition 9 = .ok (.ifCond .eq 8, 3) := by decide +kernel
theorem dX11_errorPosition_12 : decode cX11_errorPosition 12 = .ok (.bipush (-9), 2) := by decide +kernel
theorem dX11_errorPosition_14 : decode cX11_errorPosition 14 = .ok (.goto 7, 3) := by decide +kernel
theorem dX11_errorPosition_17 : decode cX11_errorPosition 17 = .ok (.aload_n 0, 1) := by decide +kernel
theorem dX11_errorPosition_18 : decode cX11_errorPosition 18 = .ok (.getfield 115, 3) := by decide +kernel
theorem dX11_errorPosition_21 : decode cX11_errorPosition 21 = .ok (.ireturn, 1) := by decide +kernel
theorem dX11_load_0 : decode cX11_load 0 = .ok (.aload_n 0, 1) := by decide +kernel
theorem dX11_load_1 : decode cX11_load 1 = .ok (.aload_n 0, 1) := by decide +kernel
theorem dX11_load_2 : decode cX11_load 2 = .ok (.invokevirtual 134, 3) := by decide +kernel
theorem dX11_load_5 : decode cX11_load 5 = .ok (.ifCond .eq 7, 3) := by decide +kernel
theorem dX11_load_8 : decode cX11_load 8 = .ok (.iconst 0, 1) := by decide +kernel
theorem dX11_load_9 : decode cX11_load 9 = .ok (.goto 4, 3) := by decide +kernel
theorem dX11_load_12 : decode cX11_load 12 = .ok (.iconst 1, 1) := by decide +kernel
theorem dX11_load_13 : decode cX11_load 13 = .ok (.invokevirtual 111, 3) := by decide +kernel
theorem dX11_load_16 : decode cX11_load 16 = .ok (.ifCond .eq 5, 3) := by decide +kernel
theorem dX11_load_19 : decode cX11_load 19 = .ok (.iconst 0, 1) := by decide +kernel
theorem dX11_load_20 : decode cX11_load 20 = .ok (.ireturn, 1) := by decide +kernel
theorem dX11_load_21 : decode cX11_load 21 = .ok (.aload_n 0, 1) := by decide +kernel
theorem dX11_load_22 : decode cX11_load 22 = .ok (.getfield 13, 3) := by decide +kernel
theorem dX11_load_25 : decode cX11_load 25 = .ok (.iconst 0, 1) := by decide +kernel
theorem dX11_load_26 : decode cX11_load 26 = .ok (.aload_n 0, 1) := by decide +kernel
theorem dX11_load_27 : decode cX11_load 27 = .ok (.getfield 16, 3) := by decide +kernel
theorem dX11_load_30 : decode cX11_load 30 = .ok (.iconst 0, 1) := by decide +kernel
theorem dX11_load_31 : decode cX11_load 31 = .ok (.invokestatic 137, 3) := by decide +kernel
theorem dX11_load_34 : decode cX11_load 34 = .ok (.aload_n 0, 1) := by decide +kernel
theorem dX11_load_35 : decode cX11_load 35 = .ok (.iconst 0, 1) := by decide +kernel
theorem dX11_load_36 : decode cX11_load 36 = .ok (.putfield 141, 3) := by decide +kernel
theorem dX11_load_39 : decode cX11_load 39 = .ok (.aload_n 0, 1) := by decide +kernel
theorem dX11_load_40 : decode cX11_load 40 = .ok (.getfield 28, 3) := by decide +kernel
theorem dX11_load_43 : decode cX11_load 43 = .ok (.iconst 0, 1) := by decide +kernel
theorem dX11_load_44 : decode cX11_load 44 = .ok (.iconst 0, 1) := by decide +kernel
theorem dX11_load_45 : decode cX11_load 45 = .ok (.bastore, 1) := by decide +kernel
theorem dX11_load_46 : decode cX11_load 46 = .ok (.aload_n 0, 1) := by decide +kernel
theorem dX11_load_47 : decode cX11_load 47 = .ok (.getfield 28, 3) := by decide +kernel
theorem dX11_load_50 : decode cX11_load 50 = .ok (.iconst 1, 1) := by decide +kernel
theorem dX11_load_51 : decode cX11_load 51 = .ok (.iconst 0, 1) := by decide +kernel
theorem dX11_load_52 : decode cX11_load 52 = .ok (.bastore, 1) := by decide +kernel
theorem dX11_load_53 : decode cX11_load 53 = .ok (.aload_n 0, 1) := by decide +kernel
theorem dX11_load_54 : decode cX11_load 54 = .ok (.getfield 16, 3) := by decide +kernel
theorem dX11_load_57 : decode cX11_load 57 = .ok (.iconst 4, 1) := by decide +kernel
theorem dX11_load_58 : decode cX11_load 58 = .ok (.iaload, 1) := by decide +kernel
theorem dX11_load_59 : decode cX11_load 59 = .ok (.ireturn, 1) := by decide +kernel
theorem dX11_about_0 : decode cX11_about 0 = .ok (.aload_n 0, 1) := by decide +kernel
theorem dX11_about_1 : decode cX11_about 1 = .ok (.iload_n 1, 1) := by decide +kernel
theorem dX11_about_2 : decode cX11_about 2 = .ok (.i2l, 1) := by decide +kernel
theorem dX11_about_3 : decode cX11_about 3 = .ok (.lconst 0, 1) := by decide +kernel
theorem dX11_about_4 : decode cX11_about 4 = .ok (.ldc2_w 144, 3) := by decide +kernel
theorem dX11_about_7 : decode cX11_about 7 = .ok (.invokestatic 36, 3) := by decide +kernel
theorem dX11_about_10 : decode cX11_about 10 = .ok (.ifCond .eq 7, 3) := by decide +kernel
theorem dX11_about_13 : decode cX11_about 13 = .ok (.iconst 0, 1) := by decide +kernel
theorem dX11_about_14 : decode cX11_about 14 = .ok (.goto 4, 3) := by decide +kernel
theorem dX11_about_17 : decode cX11_about 17 = .ok (.iconst 1, 1) := by decide +kernel
theorem dX11_about_18 : decode cX11_about 18 = .ok (.invokevirtual 111, 3) := by decide +kernel
theorem dX11_about_21 : decode cX11_about 21 = .ok (.ifCond .eq 5, 3) := by decide +kernel
theorem dX11_about_24 : decode cX11_about 24 = .ok (.iconst 0, 1) := by decide +kernel
theorem dX11_about_25 : decode cX11_about 25 = .ok (.ireturn, 1) := by decide +kernel
theorem dX11_about_26 : decode cX11_about 26 = .ok (.iload_n 1, 1) := by decide +kernel
theorem dX11_about_27 : decode cX11_about 27 = .ok (.tableswitch 143 0 13 #[69, 76, 83, 90, 97, 104, 111, 119, 127, 143, 143, 143, 143, 135], 69) := by decide +kernel
theorem dX11_about_96 : decode cX11_about 96 = .ok (.aload_n 0, 1) := by decide +kernel
theorem dX11_about_97 : decode cX11_about 97 = .ok (.getfield 16, 3) := by decide +kernel
theorem dX11_about_100 : decode cX11_about 100 = .ok (.iconst 4, 1) := by decide +kernel
theorem dX11_about_101 : decode cX11_about 101 = .ok (.iaload, 1) := by decide +kernel
theorem dX11_about_102 : decode cX11_about 102 = .ok (.ireturn, 1) := by decide +kernel
theorem dX11_about_103 : decode cX11_about 103 = .ok (.aload_n 0, 1) := by decide +kernel
theorem dX11_about_104 : decode cX11_about 104 = .ok (.getfield 16, 3) := by decide +kernel
theorem dX11_about_107 : decode cX11_about 107 = .ok (.iconst 5, 1) := by decide +kernel
theorem dX11_about_108 : decode cX11_about 108 = .ok (.iaload, 1) := by decide +kernel
theorem dX11_about_109 : decode cX11_about 109 = .ok (.ireturn, 1) := by decide +kernel
theorem dX11_about_110 : decode cX11_about 110 = .ok (.aload_n 0, 1) := by decide +kernel
theorem dX11_about_111 : decode cX11_about 111 = .ok (.getfield 16, 3) := by decide +kernel
theorem dX11_about_114 : decode cX11_about 114 = .ok (.iconst 0, 1) := by decide +kernel
theorem dX11_about_115 : decode cX11_about 115 = .ok (.iaload, 1) := by decide +kernel
theorem dX11_about_116 : decode cX11_about 116 = .ok (.ireturn, 1) := by decide +kernel
theorem dX11_about_117 : decode cX11_about 117 = .ok (.aload_n 0, 1) := by decide +kernel
theorem dX11_about_118 : decode cX11_about 118 = .ok (.getfield 16, 3) := by decide +kernel
theorem dX11_about_121 : decode cX11_about 121 = .ok (.iconst 1, 1) := by decide +kernel
theorem dX11_about_122 : decode cX11_about 122 = .ok (.iaload, 1) := by decide +kernel
theorem dX11_about_123 : decode cX11_about 123 = .ok (.ireturn, 1) := by decide +kernel
theorem dX11_about_124 : decode cX11_about 124 = .ok (.aload_n 0, 1) := by decide +kernel
theorem dX11_about_125 : decode cX11_about 125 = .ok (.getfield 16, 3) := by decide +kernel
theorem dX11_about_128 : decode cX11_about 128 = .ok (.iconst 2, 1) := by decide +kernel
theorem dX11_about_129 : decode cX11_about 129 = .ok (.iaload, 1) := by decide +kernel
theorem dX11_about_130 : decode cX11_about 130 = .ok (.ireturn, 1) := by decide +kernel
theorem dX11_about_131 : decode cX11_about 131 = .ok (.aload_n 0, 1) := by decide +kernel
theorem dX11_about_132 : decode cX11_about 132 = .ok (.getfield 16, 3) := by decide +kernel
theorem dX11_about_135 : decode cX11_about 135 = .ok (.iconst 3, 1) := by decide +kernel
theorem dX11_about_136 : decode cX11_about 136 = .ok (.iaload, 1) := by decide +kernel
theorem dX11_about_137 : decode cX11_about 137 = .ok (.ireturn, 1) := by decide +kernel
theorem dX11_about_138 : decode cX11_about 138 = .ok (.aload_n 0, 1) := by decide +kernel
theorem dX11_about_139 : decode cX11_about 139 = .ok (.getfield 16, 3) := by decide +kernel
theorem dX11_about_142 : decode cX11_about 142 = .ok (.bipush 7, 2) := by decide +kernel
theorem dX11_about_144 : decode cX11_about 144 = .ok (.iaload, 1) := by decide +kernel
theorem dX11_about_145 : decode cX11_about 145 = .ok (.ireturn, 1) := by decide +kernel
theorem dX11_about_146 : decode cX11_about 146 = .ok (.aload_n 0, 1) := by decide +kernel
theorem dX11_about_147 : decode cX11_about 147 = .ok (.getfield 16, 3) := by decide +kernel
theorem dX11_about_150 : decode cX11_about 150 = .ok (.bipush 8, 2) := by decide +kernel
theorem dX11_about_152 : decode cX11_about 152 = .ok (.iaload, 1) := by decide +kernel
theorem dX11_about_153 : decode cX11_about 153 = .ok (.ireturn, 1) := by decide +kernel
theorem dX11_about_154 : decode cX11_about 154 = .ok (.aload_n 0, 1) := by decide +kernel
theorem dX11_about_155 : decode cX11_about 155 = .ok (.getfield 16, 3) := by decide +kernel
theorem dX11_about_158 : decode cX11_about 158 = .ok (.invokestatic 55, 3) := by decide +kernel
theorem dX11_about_161 : decode cX11_about 161 = .ok (.ireturn, 1) := by decide +kernel
theorem dX11_about_162 : decode cX11_about 162 = .ok (.aload_n 0, 1) := by decide +kernel
theorem dX11_about_163 : decode cX11_about 163 = .ok (.getfield 16, 3) := by decide +kernel
theorem dX11_about_166 : decode cX11_about 166 = .ok (.invokestatic 74, 3) := by decide +kernel
theorem dX11_about_169 : decode cX11_about 169 = .ok (.ireturn, 1) := by decide +kernel
theorem dX11_about_170 : decode cX11_about 170 = .ok (.aload_n 0, 1) := by decide +kernel
theorem dX11_about_171 : decode cX11_about 171 = .ok (.getfield 16, 3) := by decide +kernel
theorem dX11_about_174 : decode cX11_about 174 = .ok (.bipush 9, 2) := by decide +kernel
theorem dX11_about_176 : decode cX11_about 176 = .ok (.iload_n 1, 1) := by decide +kernel
theorem dX11_about_177 : decode cX11_about 177 = .ok (.iadd, 1) := by decide +kernel
theorem dX11_about_178 : decode cX11_about 178 = .ok (.bipush 9, 2) := by decide +kernel
theorem dX11_about_180 : decode cX11_about 180 = .ok (.isub, 1) := by decide +kernel
theorem dX11_about_181 : decode cX11_about 181 = .ok (.iaload, 1) := by decide +kernel
theorem dX11_about_182 : decode cX11_about 182 = .ok (.ireturn, 1) := by decide +kernel
theorem dX11_zone_0 : decode cX11_zone 0 = .ok (.aload_n 0, 1) := by decide +kernel
theorem dX11_zone_1 : decode cX11_zone 1 = .ok (.aload_n 0, 1) := by decide +kernel
theorem dX11_zone_2 : decode cX11_zone 2 = .ok (.getfield 16, 3) := by decide +kernel
theorem dX11_zone_5 : decode cX11_zone 5 = .ok (.iload_n 1, 1) := by decide +kernel
theorem dX11_zone_6 : decode cX11_zone 6 = .ok (.invokestatic 146, 3) := by decide +kernel
theorem dX11_zone_9 : decode cX11_zone 9 = .ok (.ifCond .ne 7, 3) := by decide +kernel
theorem dX11_zone_12 : decode cX11_zone 12 = .ok (.iconst 1, 1) := by decide +kernel
theorem dX11_zone_13 : decode cX11_zone 13 = .ok (.goto 20, 3) := by decide +kernel
theorem dX11_zone_16 : decode cX11_zone 16 = .ok (.iload_n 2, 1) := by decide +kernel
theorem dX11_zone_17 : decode cX11_zone 17 = .ok (.i2l, 1) := by decide +kernel
theorem dX11_zone_18 : decode cX11_zone 18 = .ok (.lconst 0, 1) := by decide +kernel
theorem dX11_zone_19 : decode cX11_zone 19 = .ok (.ldc2_w 150, 3) := by decide +kernel
theorem dX11_zone_22 : decode cX11_zone 22 = .ok (.invokestatic 36, 3) := by decide +kernel
theorem dX11_zone_25 : decode cX11_zone 25 = .ok (.ifCond .ne 7, 3) := by decide +kernel
theorem dX11_zone_28 : decode cX11_zone 28 = .ok (.iconst 2, 1) := by decide +kernel
theorem dX11_zone_29 : decode cX11_zone 29 = .ok (.goto 4, 3) := by decide +kernel
theorem dX11_zone_32 : decode cX11_zone 32 = .ok (.iconst 0, 1) := by decide +kernel
theorem dX11_zone_33 : decode cX11_zone 33 = .ok (.invokevirtual 111, 3) := by decide +kernel
theorem dX11_zone_36 : decode cX11_zone 36 = .ok (.ifCond .eq 5, 3) := by decide +kernel
theorem dX11_zone_39 : decode cX11_zone 39 = .ok (.iconst 0, 1) := by decide +kernel
theorem dX11_zone_40 : decode cX11_zone 40 = .ok (.ireturn, 1) := by decide +kernel
theorem dX11_zone_41 : decode cX11_zone 41 = .ok (.aload_n 0, 1) := by decide +kernel
theorem dX11_zone_42 : decode cX11_zone 42 = .ok (.getfield 16, 3) := by decide +kernel
theorem dX11_zone_45 : decode cX11_zone 45 = .ok (.iload_n 1, 1) := by decide +kernel
theorem dX11_zone_46 : decode cX11_zone 46 = .ok (.invokestatic 40, 3) := by decide +kernel
theorem dX11_zone_49 : decode cX11_zone 49 = .ok (.iaload, 1) := by decide +kernel
theorem dX11_zone_50 : decode cX11_zone 50 = .ok (.istore_n 3, 1) := by decide +kernel
theorem dX11_zone_51 : decode cX11_zone 51 = .ok (.iload_n 2, 1) := by decide +kernel
theorem dX11_zone_52 : decode cX11_zone 52 = .ok (.iconst 4, 1) := by decide +kernel
theorem dX11_zone_53 : decode cX11_zone 53 = .ok (.if_icmp .ge 17, 3) := by decide +kernel
theorem dX11_zone_56 : decode cX11_zone 56 = .ok (.aload_n 0, 1) := by decide +kernel
theorem dX11_zone_57 : decode cX11_zone 57 = .ok (.getfield 16, 3) := by decide +kernel
theorem dX11_zone_60 : decode cX11_zone 60 = .ok (.iload_n 1, 1) := by decide +kernel
theorem dX11_zone_61 : decode cX11_zone 61 = .ok (.invokestatic 40, 3) := by decide +kernel
theorem dX11_zone_64 : decode cX11_zone 64 = .ok (.iload_n 2, 1) := by decide +kernel
theorem dX11_zone_65 : decode cX11_zone 65 = .ok (.iadd, 1) := by decide +kernel
theorem dX11_zone_66 : decode cX11_zone 66 = .ok (.iaload, 1) := by decide +kernel
theorem dX11_zone_67 : decode cX11_zone 67 = .ok (.goto 42, 3) := by decide +kernel
theorem dX11_zone_70 : decode cX11_zone 70 = .ok (.iload_n 1, 1) := by decide +kernel
theorem dX11_zone_71 : decode cX11_zone 71 = .ok (.aload_n 0, 1) := by decide +kernel
theorem dX11_zone_72 : decode cX11_zone 72 = .ok (.getfield 16, 3) := by decide +kernel
theorem dX11_zone_75 : decode cX11_zone 75 = .ok (.bipush 7, 2) := by decide +kernel
theorem dX11_zone_77 : decode cX11_zone 77 = .ok (.iaload, 1) := by decide +kernel
theorem dX11_zone_78 : decode cX11_zone 78 = .ok (.if_icmp .ge 7, 3) := by decide +kernel
theorem dX11_zone_81 : decode cX11_zone 81 = .ok (.iconst 0, 1) := by decide +kernel
theorem dX11_zone_82 : decode cX11_zone 82 = .ok (.goto 27, 3) := by decide +kernel
theorem dX11_zone_85 : decode cX11_zone 85 = .ok (.iload_n 1, 1) := by decide +kernel
theorem dX11_zone_86 : decode cX11_zone 86 = .ok (.aload_n 0, 1) := by decide +kernel
theorem dX11_zone_87 : decode cX11_zone 87 = .ok (.getfield 16, 3) := by decide +kernel
theorem dX11_zone_90 : decode cX11_zone 90 = .ok (.bipush 7, 2) := by decide +kernel
theorem dX11_zone_92 : decode cX11_zone 92 = .ok (.iaload, 1) := by decide +kernel
theorem dX11_zone_93 : decode cX11_zone 93 = .ok (.if_icmp .ne 15, 3) := by decide +kernel
theorem dX11_zone_96 : decode cX11_zone 96 = .ok (.iload_n 3, 1) := by decide +kernel
theorem dX11_zone_97 : decode cX11_zone 97 = .ok (.aload_n 0, 1) := by decide +kernel
theorem dX11_zone_98 : decode cX11_zone 98 = .ok (.getfield 16, 3) := by decide +kernel
theorem dX11_zone_101 : decode cX11_zone 101 = .ok (.bipush 8, 2) := by decide +kernel
theorem dX11_zone_103 : decode cX11_zone 103 = .ok (.iaload, 1) := by decide +kernel
theorem dX11_zone_104 : decode cX11_zone 104 = .ok (.isub, 1) := by decide +kernel
theorem dX11_zone_105 : decode cX11_zone 105 = .ok (.goto 4, 3) := by decide +kernel
theorem dX11_zone_108 : decode cX11_zone 108 = .ok (.iload_n 3, 1) := by decide +kernel
theorem dX11_zone_109 : decode cX11_zone 109 = .ok (.ireturn, 1) := by decide +kernel
theorem dX11_ship_0 : decode cX11_ship 0 = .ok (.aload_n 0, 1) := by decide +kernel
theorem dX11_ship_1 : decode cX11_ship 1 = .ok (.aload_n 0, 1) := by decide +kernel
theorem dX11_ship_2 : decode cX11_ship 2 = .ok (.getfield 16, 3) := by decide +kernel
theorem dX11_ship_5 : decode cX11_ship 5 = .ok (.iload_n 1, 1) := by decide +kernel
theorem dX11_ship_6 : decode cX11_ship 6 = .ok (.invokestatic 152, 3) := by decide +kernel
theorem dX11_ship_9 : decode cX11_ship 9 = .ok (.ifCond .ne 7, 3) := by decide +kernel
theorem dX11_ship_12 : decode cX11_ship 12 = .ok (.iconst 1, 1) := by decide +kernel
theorem dX11_ship_13 : decode cX11_ship 13 = .ok (.goto 20, 3) := by decide +kernel
theorem dX11_ship_16 : decode cX11_ship 16 = .ok (.iload_n 2, 1) := by decide +kernel
theorem dX11_ship_17 : decode cX11_ship 17 = .ok (.i2l, 1) := by decide +kernel
theorem dX11_ship_18 : decode cX11_ship 18 = .ok (.lconst 0, 1) := by decide +kernel
theorem dX11_ship_19 : decode cX11_ship 19 = .ok (.ldc2_w 155, 3) := by decide +kernel
theorem dX11_ship_22 : decode cX11_ship 22 = .ok (.invokestatic 36, 3) := by decide +kernel
theorem dX11_ship_25 : decode cX11_ship 25 = .ok (.ifCond .ne 7, 3) := by decide +kernel
theorem dX11_ship_28 : decode cX11_ship 28 = .ok (.iconst 2, 1) := by decide +kernel
theorem dX11_ship_29 : decode cX11_ship 29 = .ok (.goto 4, 3) := by decide +kernel
theorem dX11_ship_32 : decode cX11_ship 32 = .ok (.iconst 0, 1) := by decide +kernel
theorem dX11_ship_33 : decode cX11_ship 33 = .ok (.invokevirtual 111, 3) := by decide +kernel
theorem dX11_ship_36 : decode cX11_ship 36 = .ok (.ifCond .eq 7, 3) := by decide +kernel
theorem dX11_ship_39 : decode cX11_ship 39 = .ok (.iconst 0, 1) := by decide +kernel
theorem dX11_ship_40 : decode cX11_ship 40 = .ok (.goto 14, 3) := by decide +kernel
theorem dX11_ship_43 : decode cX11_ship 43 = .ok (.aload_n 0, 1) := by decide +kernel
theorem dX11_ship_44 : decode cX11_ship 44 = .ok (.getfield 16, 3) := by decide +kernel
theorem dX11_ship_47 : decode cX11_ship 47 = .ok (.iload_n 1, 1) := by decide +kernel
theorem dX11_ship_48 : decode cX11_ship 48 = .ok (.invokestatic 48, 3) := by decide +kernel
theorem dX11_ship_51 : decode cX11_ship 51 = .ok (.iload_n 2, 1) := by decide +kernel
theorem dX11_ship_52 : decode cX11_ship 52 = .ok (.iadd, 1) := by decide +kernel
theorem dX11_ship_53 : decode cX11_ship 53 = .ok (.iaload, 1) := by decide +kernel
theorem dX11_ship_54 : decode cX11_ship 54 = .ok (.ireturn, 1) := by decide +kernel
theorem dX11_waves_0 : decode cX11_waves 0 = .ok (.aload_n 0, 1) := by decide +kernel
theorem dX11_waves_1 : decode cX11_waves 1 = .ok (.iload_n 1, 1) := by decide +kernel
theorem dX11_waves_2 : decode cX11_waves 2 = .ok (.i2l, 1) := by decide +kernel
theorem dX11_waves_3 : decode cX11_waves 3 = .ok (.lconst 0, 1) := by decide +kernel
theorem dX11_waves_4 : decode cX11_waves 4 = .ok (.ldc2_w 157, 3) := by decide +kernel
theorem dX11_waves_7 : decode cX11_waves 7 = .ok (.invokestatic 36, 3) := by decide +kernel
theorem dX11_waves_10 : decode cX11_waves 10 = .ok (.ifCond .eq 7, 3) := by decide +kernel
theorem dX11_waves_13 : decode cX11_waves 13 = .ok (.iconst 0, 1) := by decide +kernel
theorem dX11_waves_14 : decode cX11_waves 14 = .ok (.goto 4, 3) := by decide +kernel
theorem dX11_waves_17 : decode cX11_waves 17 = .ok (.iconst 1, 1) := by decide +kernel
theorem dX11_waves_18 : decode cX11_waves 18 = .ok (.invokevirtual 111, 3) := by decide +kernel
theorem dX11_waves_21 : decode cX11_waves 21 = .ok (.ifCond .eq 7, 3) := by decide +kernel
theorem dX11_waves_24 : decode cX11_waves 24 = .ok (.iconst 0, 1) := by decide +kernel
theorem dX11_waves_25 : decode cX11_waves 25 = .ok (.goto 11, 3) := by decide +kernel
theorem dX11_waves_28 : decode cX11_waves 28 = .ok (.aload_n 0, 1) := by decide +kernel
theorem dX11_waves_29 : decode cX11_waves 29 = .ok (.getfield 16, 3) := by decide +kernel
theorem dX11_waves_32 : decode cX11_waves 32 = .ok (.iload_n 1, 1) := by decide +kernel
theorem dX11_waves_33 : decode cX11_waves 33 = .ok (.invokestatic 70, 3) := by decide +kernel
theorem dX11_waves_36 : decode cX11_waves 36 = .ok (.ireturn, 1) := by decide +kernel
theorem dX11_account_0 : decode cX11_account 0 = .ok (.aload_n 0, 1) := by decide +kernel
theorem dX11_account_1 : decode cX11_account 1 = .ok (.iload_n 1, 1) := by decide +kernel
theorem dX11_account_2 : decode cX11_account 2 = .ok (.i2l, 1) := by decide +kernel
theorem dX11_account_3 : decode cX11_account 3 = .ok (.lconst 0, 1) := by decide +kernel
theorem dX11_account_4 : decode cX11_account 4 = .ok (.ldc2_w 155, 3) := by decide +kernel
theorem dX11_account_7 : decode cX11_account 7 = .ok (.invokestatic 36, 3) := by decide +kernel
theorem dX11_account_10 : decode cX11_account 10 = .ok (.ifCond .eq 7, 3) := by decide +kernel
theorem dX11_account_13 : decode cX11_account 13 = .ok (.iconst 0, 1) := by decide +kernel
theorem dX11_account_14 : decode cX11_account 14 = .ok (.goto 4, 3) := by decide +kernel
theorem dX11_account_17 : decode cX11_account 17 = .ok (.iconst 1, 1) := by decide +kernel
theorem dX11_account_18 : decode cX11_account 18 = .ok (.invokevirtual 111, 3) := by decide +kernel
theorem dX11_account_21 : decode cX11_account 21 = .ok (.ifCond .eq 5, 3) := by decide +kernel
theorem dX11_account_24 : decode cX11_account 24 = .ok (.iconst 0, 1) := by decide +kernel
theorem dX11_account_25 : decode cX11_account 25 = .ok (.ireturn, 1) := by decide +kernel
theorem dX11_account_26 : decode cX11_account 26 = .ok (.iconst 0, 1) := by decide +kernel
theorem dX11_account_27 : decode cX11_account 27 = .ok (.istore_n 2, 1) := by decide +kernel
theorem dX11_account_28 : decode cX11_account 28 = .ok (.iconst 0, 1) := by decide +kernel
theorem dX11_account_29 : decode cX11_account 29 = .ok (.istore_n 3, 1) := by decide +kernel
theorem dX11_account_30 : decode cX11_account 30 = .ok (.iload_n 3, 1) := by decide +kernel
theorem dX11_account_31 : decode cX11_account 31 = .ok (.aload_n 0, 1) := by decide +kernel
theorem dX11_account_32 : decode cX11_account 32 = .ok (.getfield 16, 3) := by decide +kernel
theorem dX11_account_35 : decode cX11_account 35 = .ok (.iconst 5, 1) := by decide +kernel
theorem dX11_account_36 : decode cX11_account 36 = .ok (.iaload, 1) := by decide +kernel
theorem dX11_account_37 : decode cX11_account 37 = .ok (.if_icmp .ge 23, 3) := by decide +kernel
theorem dX11_account_40 : decode cX11_account 40 = .ok (.iload_n 2, 1) := by decide +kernel
theorem dX11_account_41 : decode cX11_account 41 = .ok (.aload_n 0, 1) := by decide +kernel
theorem dX11_account_42 : decode cX11_account 42 = .ok (.getfield 16, 3) := by decide +kernel
theorem dX11_account_45 : decode cX11_account 45 = .ok (.iload_n 3, 1) := by decide +kernel
theorem dX11_account_46 : decode cX11_account 46 = .ok (.invokestatic 48, 3) := by decide +kernel
theorem dX11_account_49 : decode cX11_account 49 = .ok (.iconst 4, 1) := by decide +kernel
theorem dX11_account_50 : decode cX11_account 50 = .ok (.iadd, 1) := by decide +kernel
theorem dX11_account_51 : decode cX11_account 51 = .ok (.iaload, 1) := by decide +kernel
theorem dX11_account_52 : decode cX11_account 52 = .ok (.iadd, 1) := by decide +kernel
theorem dX11_account_53 : decode cX11_account 53 = .ok (.istore_n 2, 1) := by decide +kernel
theorem dX11_account_54 : decode cX11_account 54 = .ok (.iinc 3 1, 3) := by decide +kernel
theorem dX11_account_57 : decode cX11_account 57 = .ok (.goto (-27), 3) := by decide +kernel
theorem dX11_account_60 : decode cX11_account 60 = .ok (.iload_n 1, 1) := by decide +kernel
theorem dX11_account_61 : decode cX11_account 61 = .ok (.iconst 3, 1) := by decide +kernel
theorem dX11_account_62 : decode cX11_account 62 = .ok (.if_icmp .ne 7, 3) := by decide +kernel
theorem dX11_account_65 : decode cX11_account 65 = .ok (.iload_n 2, 1) := by decide +kernel
theorem dX11_account_66 : decode cX11_account 66 = .ok (.goto 23, 3) := by decide +kernel
theorem dX11_account_69 : decode cX11_account 69 = .ok (.aload_n 0, 1) := by decide +kernel
theorem dX11_account_70 : decode cX11_account 70 = .ok (.getfield 16, 3) := by decide +kernel
theorem dX11_account_73 : decode cX11_account 73 = .ok (.bipush 16, 2) := by decide +kernel
theorem dX11_account_75 : decode cX11_account 75 = .ok (.iload_n 1, 1) := by decide +kernel
theorem dX11_account_76 : decode cX11_account 76 = .ok (.iconst 3, 1) := by decide +kernel
theorem dX11_account_77 : decode cX11_account 77 = .ok (.if_icmp .ge 7, 3) := by decide +kernel
theorem dX11_account_80 : decode cX11_account 80 = .ok (.iload_n 1, 1) := by decide +kernel
theorem dX11_account_81 : decode cX11_account 81 = .ok (.goto 6, 3) := by decide +kernel
theorem dX11_account_84 : decode cX11_account 84 = .ok (.iload_n 1, 1) := by decide +kernel
theorem dX11_account_85 : decode cX11_account 85 = .ok (.iconst 1, 1) := by decide +kernel
theorem dX11_account_86 : decode cX11_account 86 = .ok (.isub, 1) := by decide +kernel
theorem dX11_account_87 : decode cX11_account 87 = .ok (.iadd, 1) := by decide +kernel
theorem dX11_account_88 : decode cX11_account 88 = .ok (.iaload, 1) := by decide +kernel
theorem dX11_account_89 : decode cX11_account 89 = .ok (.ireturn, 1) := by decide +kernel
theorem dX11_note_0 : decode cX11_note 0 = .ok (.aload_n 0, 1) := by decide +kernel
theorem dX11_note_1 : decode cX11_note 1 = .ok (.getfield 141, 3) := by decide +kernel
theorem dX11_note_4 : decode cX11_note 4 = .ok (.bipush 14, 2) := by decide +kernel
theorem dX11_note_6 : decode cX11_note 6 = .ok (.if_icmp .ne 43, 3) := by decide +kernel
theorem dX11_note_9 : decode cX11_note 9 = .ok (.iconst 0, 1) := by decide +kernel
theorem dX11_note_10 : decode cX11_note 10 = .ok (.istore_n 1, 1) := by decide +kernel
theorem dX11_note_11 : decode cX11_note 11 = .ok (.iload_n 1, 1) := by decide +kernel
theorem dX11_note_12 : decode cX11_note 12 = .ok (.sipush 1573, 3) := by decide +kernel
theorem dX11_note_15 : decode cX11_note 15 = .ok (.if_icmp .ge 24, 3) := by decide +kernel
theorem dX11_note_18 : decode cX11_note 18 = .ok (.aload_n 0, 1) := by decide +kernel
theorem dX11_note_19 : decode cX11_note 19 = .ok (.getfield 22, 3) := by decide +kernel
theorem dX11_note_22 : decode cX11_note 22 = .ok (.iload_n 1, 1) := by decide +kernel
theorem dX11_note_23 : decode cX11_note 23 = .ok (.aload_n 0, 1) := by decide +kernel
theorem dX11_note_24 : decode cX11_note 24 = .ok (.getfield 22, 3) := by decide +kernel
theorem dX11_note_27 : decode cX11_note 27 = .ok (.iload_n 1, 1) := by decide +kernel
theorem dX11_note_28 : decode cX11_note 28 = .ok (.bipush 121, 2) := by decide +kernel
theorem dX11_note_30 : decode cX11_note 30 = .ok (.iadd, 1) := by decide +kernel
theorem dX11_note_31 : decode cX11_note 31 = .ok (.iaload, 1) := by decide +kernel
theorem dX11_note_32 : decode cX11_note 32 = .ok (.iastore, 1) := by decide +kernel
theorem dX11_note_33 : decode cX11_note 33 = .ok (.iinc 1 1, 3) := by decide +kernel
theorem dX11_note_36 : decode cX11_note 36 = .ok (.goto (-25), 3) := by decide +kernel
theorem dX11_note_39 : decode cX11_note 39 = .ok (.aload_n 0, 1) := by decide +kernel
theorem dX11_note_40 : decode cX11_note 40 = .ok (.dup, 1) := by decide +kernel
theorem dX11_note_41 : decode cX11_note 41 = .ok (.getfield 141, 3) := by decide +kernel
theorem dX11_note_44 : decode cX11_note 44 = .ok (.iconst 1, 1) := by decide +kernel
theorem dX11_note_45 : decode cX11_note 45 = .ok (.isub, 1) := by decide +kernel
theorem dX11_note_46 : decode cX11_note 46 = .ok (.putfield 141, 3) := by decide +kernel
theorem dX11_note_49 : decode cX11_note 49 = .ok (.aload_n 0, 1) := by decide +kernel
theorem dX11_note_50 : decode cX11_note 50 = .ok (.getfield 16, 3) := by decide +kernel
theorem dX11_note_53 : decode cX11_note 53 = .ok (.iconst 0, 1) := by decide +kernel
theorem dX11_note_54 : decode cX11_note 54 = .ok (.aload_n 0, 1) := by decide +kernel
theorem dX11_note_55 : decode cX11_note 55 = .ok (.getfield 22, 3) := by decide +kernel
theorem dX11_note_58 : decode cX11_note 58 = .ok (.bipush 121, 2) := by decide +kernel
theorem dX11_note_60 : decode cX11_note 60 = .ok (.aload_n 0, 1) := by decide +kernel
theorem dX11_note_61 : decode cX11_note 61 = .ok (.getfield 141, 3) := by decide +kernel
theorem dX11_note_64 : decode cX11_note 64 = .ok (.imul, 1) := by decide +kernel
theorem dX11_note_65 : decode cX11_note 65 = .ok (.invokestatic 137, 3) := by decide +kernel
theorem dX11_note_68 : decode cX11_note 68 = .ok (.aload_n 0, 1) := by decide +kernel
theorem dX11_note_69 : decode cX11_note 69 = .ok (.dup, 1) := by decide +kernel
theorem dX11_note_70 : decode cX11_note 70 = .ok (.getfield 141, 3) := by decide +kernel
theorem dX11_note_73 : decode cX11_note 73 = .ok (.iconst 1, 1) := by decide +kernel
theorem dX11_note_74 : decode cX11_note 74 = .ok (.iadd, 1) := by decide +kernel
theorem dX11_note_75 : decode cX11_note 75 = .ok (.putfield 141, 3) := by decide +kernel
theorem dX11_note_78 : decode cX11_note 78 = .ok (.return_, 1) := by decide +kernel
theorem dX11_take_0 : decode cX11_take 0 = .ok (.aload_n 0, 1) := by decide +kernel
theorem dX11_take_1 : decode cX11_take 1 = .ok (.aload_n 0, 1) := by decide +kernel
theorem dX11_take_2 : decode cX11_take 2 = .ok (.getfield 16, 3) := by decide +kernel
theorem dX11_take_5 : decode cX11_take 5 = .ok (.iload_n 1, 1) := by decide +kernel
theorem dX11_take_6 : decode cX11_take 6 = .ok (.invokestatic 152, 3) := by decide +kernel
theorem dX11_take_9 : decode cX11_take 9 = .ok (.ifCond .ne 7, 3) := by decide +kernel
theorem dX11_take_12 : decode cX11_take 12 = .ok (.iconst 1, 1) := by decide +kernel
theorem dX11_take_13 : decode cX11_take 13 = .ok (.goto 36, 3) := by decide +kernel
theorem dX11_take_16 : decode cX11_take 16 = .ok (.iload_n 2, 1) := by decide +kernel
theorem dX11_take_17 : decode cX11_take 17 = .ok (.i2l, 1) := by decide +kernel
theorem dX11_take_18 : decode cX11_take 18 = .ok (.lconst 1, 1) := by decide +kernel
theorem dX11_take_19 : decode cX11_take 19 = .ok (.ldc2_w 159, 3) := by decide +kernel
theorem dX11_take_22 : decode cX11_take 22 = .ok (.invokestatic 36, 3) := by decide +kernel
theorem dX11_take_25 : decode cX11_take 25 = .ok (.ifCond .ne 7, 3) := by decide +kernel
theorem dX11_take_28 : decode cX11_take 28 = .ok (.iconst 2, 1) := by decide +kernel
theorem dX11_take_29 : decode cX11_take 29 = .ok (.goto 20, 3) := by decide +kernel
theorem dX11_take_32 : decode cX11_take 32 = .ok (.aload_n 0, 1) := by decide +kernel
theorem dX11_take_33 : decode cX11_take 33 = .ok (.getfield 16, 3) := by decide +kernel
theorem dX11_take_36 : decode cX11_take 36 = .ok (.iload_n 1, 1) := by decide +kernel
theorem dX11_take_37 : decode cX11_take 37 = .ok (.iload_n 2, 1) := by decide +kernel
theorem dX11_take_38 : decode cX11_take 38 = .ok (.invokestatic 161, 3) := by decide +kernel
theorem dX11_take_41 : decode cX11_take 41 = .ok (.ifCond .ne 7, 3) := by decide +kernel
theorem dX11_take_44 : decode cX11_take 44 = .ok (.iconst 3, 1) := by decide +kernel
theorem dX11_take_45 : decode cX11_take 45 = .ok (.goto 4, 3) := by decide +kernel
theorem dX11_take_48 : decode cX11_take 48 = .ok (.iconst 0, 1) := by decide +kernel
theorem dX11_take_49 : decode cX11_take 49 = .ok (.invokevirtual 111, 3) := by decide +kernel
theorem dX11_take_52 : decode cX11_take 52 = .ok (.ifCond .eq 5, 3) := by decide +kernel
theorem dX11_take_55 : decode cX11_take 55 = .ok (.iconst 0, 1) := by decide +kernel
theorem dX11_take_56 : decode cX11_take 56 = .ok (.ireturn, 1) := by decide +kernel
theorem dX11_take_57 : decode cX11_take 57 = .ok (.aload_n 0, 1) := by decide +kernel
theorem dX11_take_58 : decode cX11_take 58 = .ok (.invokevirtual 165, 3) := by decide +kernel
theorem dX11_take_61 : decode cX11_take 61 = .ok (.aload_n 0, 1) := by decide +kernel
theorem dX11_take_62 : decode cX11_take 62 = .ok (.getfield 16, 3) := by decide +kernel
theorem dX11_take_65 : decode cX11_take 65 = .ok (.iload_n 1, 1) := by decide +kernel
theorem dX11_take_66 : decode cX11_take 66 = .ok (.iload_n 2, 1) := by decide +kernel
theorem dX11_take_67 : decode cX11_take 67 = .ok (.invokestatic 100, 3) := by decide +kernel
theorem dX11_take_70 : decode cX11_take 70 = .ok (.aload_n 0, 1) := by decide +kernel
theorem dX11_take_71 : decode cX11_take 71 = .ok (.getfield 16, 3) := by decide +kernel
theorem dX11_take_74 : decode cX11_take 74 = .ok (.iload_n 1, 1) := by decide +kernel
theorem dX11_take_75 : decode cX11_take 75 = .ok (.invokestatic 48, 3) := by decide +kernel
theorem dX11_take_78 : decode cX11_take 78 = .ok (.iconst 4, 1) := by decide +kernel
theorem dX11_take_79 : decode cX11_take 79 = .ok (.iadd, 1) := by decide +kernel
theorem dX11_take_80 : decode cX11_take 80 = .ok (.iaload, 1) := by decide +kernel
theorem dX11_take_81 : decode cX11_take 81 = .ok (.ireturn, 1) := by decide +kernel
theorem dX11_send_0 : decode cX11_send 0 = .ok (.aload_n 0, 1) := by decide +kernel
theorem dX11_send_1 : decode cX11_send 1 = .ok (.aload_n 0, 1) := by decide +kernel
theorem dX11_send_2 : decode cX11_send 2 = .ok (.getfield 16, 3) := by decide +kernel
theorem dX11_send_5 : decode cX11_send 5 = .ok (.iload_n 1, 1) := by decide +kernel
theorem dX11_send_6 : decode cX11_send 6 = .ok (.invokestatic 152, 3) := by decide +kernel
theorem dX11_send_9 : decode cX11_send 9 = .ok (.ifCond .ne 7, 3) := by decide +kernel
theorem dX11_send_12 : decode cX11_send 12 = .ok (.iconst 1, 1) := by decide +kernel
theorem dX11_send_13 : decode cX11_send 13 = .ok (.goto 19, 3) := by decide +kernel
theorem dX11_send_16 : decode cX11_send 16 = .ok (.aload_n 0, 1) := by decide +kernel
theorem dX11_send_17 : decode cX11_send 17 = .ok (.getfield 16, 3) := by decide +kernel
theorem dX11_send_20 : decode cX11_send 20 = .ok (.iload_n 1, 1) := by decide +kernel
theorem dX11_send_21 : decode cX11_send 21 = .ok (.invokestatic 168, 3) := by decide +kernel
theorem dX11_send_24 : decode cX11_send 24 = .ok (.ifCond .ne 7, 3) := by decide +kernel
theorem dX11_send_27 : decode cX11_send 27 = .ok (.iconst 2, 1) := by decide +kernel
theorem dX11_send_28 : decode cX11_send 28 = .ok (.goto 4, 3) := by decide +kernel
theorem dX11_send_31 : decode cX11_send 31 = .ok (.iconst 0, 1) := by decide +kernel
theorem dX11_send_32 : decode cX11_send 32 = .ok (.invokevirtual 111, 3) := by decide +kernel
theorem dX11_send_35 : decode cX11_send 35 = .ok (.ifCond .eq 5, 3) := by decide +kernel
theorem dX11_send_38 : decode cX11_send 38 = .ok (.iconst 0, 1) := by decide +kernel
theorem dX11_send_39 : decode cX11_send 39 = .ok (.ireturn, 1) := by decide +kernel
theorem dX11_send_40 : decode cX11_send 40 = .ok (.aload_n 0, 1) := by decide +kernel
theorem dX11_send_41 : decode cX11_send 41 = .ok (.invokevirtual 165, 3) := by decide +kernel
theorem dX11_send_44 : decode cX11_send 44 = .ok (.aload_n 0, 1) := by decide +kernel
theorem dX11_send_45 : decode cX11_send 45 = .ok (.getfield 16, 3) := by decide +kernel
theorem dX11_send_48 : decode cX11_send 48 = .ok (.iload_n 1, 1) := by decide +kernel
theorem dX11_send_49 : decode cX11_send 49 = .ok (.invokestatic 103, 3) := by decide +kernel
theorem dX11_send_52 : decode cX11_send 52 = .ok (.ireturn, 1) := by decide +kernel
theorem dX11_recall_0 : decode cX11_recall 0 = .ok (.aload_n 0, 1) := by decide +kernel
theorem dX11_recall_1 : decode cX11_recall 1 = .ok (.aload_n 0, 1) := by decide +kernel
theorem dX11_recall_2 : decode cX11_recall 2 = .ok (.getfield 16, 3) := by decide +kernel
theorem dX11_recall_5 : decode cX11_recall 5 = .ok (.iload_n 1, 1) := by decide +kernel
theorem dX11_recall_6 : decode cX11_recall 6 = .ok (.invokestatic 152, 3) := by decide +kernel
theorem dX11_recall_9 : decode cX11_recall 9 = .ok (.ifCond .ne 7, 3) := by decide +kernel
theorem dX11_recall_12 : decode cX11_recall 12 = .ok (.iconst 1, 1) := by decide +kernel
theorem dX11_recall_13 : decode cX11_recall 13 = .ok (.goto 19, 3) := by decide +kernel
theorem dX11_recall_16 : decode cX11_recall 16 = .ok (.aload_n 0, 1) := by decide +kernel
theorem dX11_recall_17 : decode cX11_recall 17 = .ok (.getfield 16, 3) := by decide +kernel
theorem dX11_recall_20 : decode cX11_recall 20 = .ok (.iload_n 1, 1) := by decide +kernel
theorem dX11_recall_21 : decode cX11_recall 21 = .ok (.invokestatic 171, 3) := by decide +kernel
theorem dX11_recall_24 : decode cX11_recall 24 = .ok (.ifCond .ne 7, 3) := by decide +kernel
theorem dX11_recall_27 : decode cX11_recall 27 = .ok (.iconst 2, 1) := by decide +kernel
theorem dX11_recall_28 : decode cX11_recall 28 = .ok (.goto 4, 3) := by decide +kernel
theorem dX11_recall_31 : decode cX11_recall 31 = .ok (.iconst 0, 1) := by decide +kernel
theorem dX11_recall_32 : decode cX11_recall 32 = .ok (.invokevirtual 111, 3) := by decide +kernel
theorem dX11_recall_35 : decode cX11_recall 35 = .ok (.ifCond .eq 5, 3) := by decide +kernel
theorem dX11_recall_38 : decode cX11_recall 38 = .ok (.iconst 0, 1) := by decide +kernel
theorem dX11_recall_39 : decode cX11_recall 39 = .ok (.ireturn, 1) := by decide +kernel
theorem dX11_recall_40 : decode cX11_recall 40 = .ok (.aload_n 0, 1) := by decide +kernel
theorem dX11_recall_41 : decode cX11_recall 41 = .ok (.invokevirtual 165, 3) := by decide +kernel
theorem dX11_recall_44 : decode cX11_recall 44 = .ok (.aload_n 0, 1) := by decide +kernel
theorem dX11_recall_45 : decode cX11_recall 45 = .ok (.getfield 16, 3) := by decide +kernel
theorem dX11_recall_48 : decode cX11_recall 48 = .ok (.iload_n 1, 1) := by decide +kernel
theorem dX11_recall_49 : decode cX11_recall 49 = .ok (.invokestatic 174, 3) := by decide +kernel
theorem dX11_recall_52 : decode cX11_recall 52 = .ok (.ireturn, 1) := by decide +kernel
theorem dX11_canExtend_0 : decode cX11_canExtend 0 = .ok (.aload_n 0, 1) := by decide +kernel
theorem dX11_canExtend_1 : decode cX11_canExtend 1 = .ok (.iload_n 1, 1) := by decide +kernel
theorem dX11_canExtend_2 : decode cX11_canExtend 2 = .ok (.invokestatic 40, 3) := by decide +kernel
theorem dX11_canExtend_5 : decode cX11_canExtend 5 = .ok (.iconst 2, 1) := by decide +kernel
theorem dX11_canExtend_6 : decode cX11_canExtend 6 = .ok (.iadd, 1) := by decide +kernel
theorem dX11_canExtend_7 : decode cX11_canExtend 7 = .ok (.iaload, 1) := by decide +kernel
theorem dX11_canExtend_8 : decode cX11_canExtend 8 = .ok (.iload_n 2, 1) := by decide +kernel
theorem dX11_canExtend_9 : decode cX11_canExtend 9 = .ok (.iadd, 1) := by decide +kernel
theorem dX11_canExtend_10 : decode cX11_canExtend 10 = .ok (.sipush 999, 3) := by decide +kernel
theorem dX11_canExtend_13 : decode cX11_canExtend 13 = .ok (.if_icmp .gt 7, 3) := by decide +kernel
theorem dX11_canExtend_16 : decode cX11_canExtend 16 = .ok (.iconst 1, 1) := by decide +kernel
theorem dX11_canExtend_17 : decode cX11_canExtend 17 = .ok (.goto 4, 3) := by decide +kernel
theorem dX11_canExtend_20 : decode cX11_canExtend 20 = .ok (.iconst 0, 1) := by decide +kernel
theorem dX11_canExtend_21 : decode cX11_canExtend 21 = .ok (.ireturn, 1) := by decide +kernel
theorem dX11_extendOn_0 : decode cX11_extendOn 0 = .ok (.aload_n 0, 1) := by decide +kernel
theorem dX11_extendOn_1 : decode cX11_extendOn 1 = .ok (.iload_n 1, 1) := by decide +kernel
theorem dX11_extendOn_2 : decode cX11_extendOn 2 = .ok (.invokestatic 40, 3) := by decide +kernel
theorem dX11_extendOn_5 : decode cX11_extendOn 5 = .ok (.iconst 2, 1) := by decide +kernel
theorem dX11_extendOn_6 : decode cX11_extendOn 6 = .ok (.iadd, 1) := by decide +kernel
theorem dX11_extendOn_7 : decode cX11_extendOn 7 = .ok (.dup2, 1) := by decide +kernel
theorem dX11_extendOn_8 : decode cX11_extendOn 8 = .ok (.iaload, 1) := by decide +kernel
theorem dX11_extendOn_9 : decode cX11_extendOn 9 = .ok (.iload_n 2, 1) := by decide +kernel
theorem dX11_extendOn_10 : decode cX11_extendOn 10 = .ok (.iadd, 1) := by decide +kernel
theorem dX11_extendOn_11 : decode cX11_extendOn 11 = .ok (.iastore, 1) := by decide +kernel
theorem dX11_extendOn_12 : decode cX11_extendOn 12 = .ok (.aload_n 0, 1) := by decide +kernel
theorem dX11_extendOn_13 : decode cX11_extendOn 13 = .ok (.bipush 21, 2) := by decide +kernel
theorem dX11_extendOn_15 : decode cX11_extendOn 15 = .ok (.dup2, 1) := by decide +kernel
theorem dX11_extendOn_16 : decode cX11_extendOn 16 = .ok (.iaload, 1) := by decide +kernel
theorem dX11_extendOn_17 : decode cX11_extendOn 17 = .ok (.bipush 50, 2) := by decide +kernel
theorem dX11_extendOn_19 : decode cX11_extendOn 19 = .ok (.iload_n 2, 1) := by decide +kernel
theorem dX11_extendOn_20 : decode cX11_extendOn 20 = .ok (.imul, 1) := by decide +kernel
theorem dX11_extendOn_21 : decode cX11_extendOn 21 = .ok (.iadd, 1) := by decide +kernel
theorem dX11_extendOn_22 : decode cX11_extendOn 22 = .ok (.iastore, 1) := by decide +kernel
theorem dX11_extendOn_23 : decode cX11_extendOn 23 = .ok (.return_, 1) := by decide +kernel
theorem dX11_extend_0 : decode cX11_extend 0 = .ok (.aload_n 0, 1) := by decide +kernel
theorem dX11_extend_1 : decode cX11_extend 1 = .ok (.aload_n 0, 1) := by decide +kernel
theorem dX11_extend_2 : decode cX11_extend 2 = .ok (.getfield 16, 3) := by decide +kernel
theorem dX11_extend_5 : decode cX11_extend 5 = .ok (.iload_n 1, 1) := by decide +kernel
theorem dX11_extend_6 : decode cX11_extend 6 = .ok (.invokestatic 146, 3) := by decide +kernel
theorem dX11_extend_9 : decode cX11_extend 9 = .ok (.ifCond .ne 7, 3) := by decide +kernel
theorem dX11_extend_12 : decode cX11_extend 12 = .ok (.iconst 1, 1) := by decide +kernel
theorem dX11_extend_13 : decode cX11_extend 13 = .ok (.goto 36, 3) := by decide +kernel
theorem dX11_extend_16 : decode cX11_extend 16 = .ok (.iload_n 2, 1) := by decide +kernel
theorem dX11_extend_17 : decode cX11_extend 17 = .ok (.i2l, 1) := by decide +kernel
theorem dX11_extend_18 : decode cX11_extend 18 = .ok (.lconst 1, 1) := by decide +kernel
theorem dX11_extend_19 : decode cX11_extend 19 = .ok (.ldc2_w 177, 3) := by decide +kernel
theorem dX11_extend_22 : decode cX11_extend 22 = .ok (.invokestatic 36, 3) := by decide +kernel
theorem dX11_extend_25 : decode cX11_extend 25 = .ok (.ifCond .ne 7, 3) := by decide +kernel
theorem dX11_extend_28 : decode cX11_extend 28 = .ok (.iconst 2, 1) := by decide +kernel
theorem dX11_extend_29 : decode cX11_extend 29 = .ok (.goto 20, 3) := by decide +kernel
theorem dX11_extend_32 : decode cX11_extend 32 = .ok (.aload_n 0, 1) := by decide +kernel
theorem dX11_extend_33 : decode cX11_extend 33 = .ok (.getfield 16, 3) := by decide +kernel
theorem dX11_extend_36 : decode cX11_extend 36 = .ok (.iload_n 1, 1) := by decide +kernel
theorem dX11_extend_37 : decode cX11_extend 37 = .ok (.iload_n 2, 1) := by decide +kernel
theorem dX11_extend_38 : decode cX11_extend 38 = .ok (.invokestatic 179, 3) := by decide +kernel
theorem dX11_extend_41 : decode cX11_extend 41 = .ok (.ifCond .ne 7, 3) := by decide +kernel
theorem dX11_extend_44 : decode cX11_extend 44 = .ok (.iconst 3, 1) := by decide +kernel
theorem dX11_extend_45 : decode cX11_extend 45 = .ok (.goto 4, 3) := by decide +kernel
theorem dX11_extend_48 : decode cX11_extend 48 = .ok (.iconst 0, 1) := by decide +kernel
theorem dX11_extend_49 : decode cX11_extend 49 = .ok (.invokevirtual 111, 3) := by decide +kernel
theorem dX11_extend_52 : decode cX11_extend 52 = .ok (.ifCond .eq 5, 3) := by decide +kernel
theorem dX11_extend_55 : decode cX11_extend 55 = .ok (.iconst 0, 1) := by decide +kernel
theorem dX11_extend_56 : decode cX11_extend 56 = .ok (.ireturn, 1) := by decide +kernel
theorem dX11_extend_57 : decode cX11_extend 57 = .ok (.aload_n 0, 1) := by decide +kernel
theorem dX11_extend_58 : decode cX11_extend 58 = .ok (.invokevirtual 165, 3) := by decide +kernel
theorem dX11_extend_61 : decode cX11_extend 61 = .ok (.aload_n 0, 1) := by decide +kernel
theorem dX11_extend_62 : decode cX11_extend 62 = .ok (.getfield 16, 3) := by decide +kernel
theorem dX11_extend_65 : decode cX11_extend 65 = .ok (.iload_n 1, 1) := by decide +kernel
theorem dX11_extend_66 : decode cX11_extend 66 = .ok (.iload_n 2, 1) := by decide +kernel
theorem dX11_extend_67 : decode cX11_extend 67 = .ok (.invokestatic 182, 3) := by decide +kernel
theorem dX11_extend_70 : decode cX11_extend 70 = .ok (.aload_n 0, 1) := by decide +kernel
theorem dX11_extend_71 : decode cX11_extend 71 = .ok (.getfield 16, 3) := by decide +kernel
theorem dX11_extend_74 : decode cX11_extend 74 = .ok (.iload_n 1, 1) := by decide +kernel
theorem dX11_extend_75 : decode cX11_extend 75 = .ok (.invokestatic 40, 3) := by decide +kernel
theorem dX11_extend_78 : decode cX11_extend 78 = .ok (.iconst 2, 1) := by decide +kernel
theorem dX11_extend_79 : decode cX11_extend 79 = .ok (.iadd, 1) := by decide +kernel
theorem dX11_extend_80 : decode cX11_extend 80 = .ok (.iaload, 1) := by decide +kernel
theorem dX11_extend_81 : decode cX11_extend 81 = .ok (.ireturn, 1) := by decide +kernel
theorem dX11_buyOn_0 : decode cX11_buyOn 0 = .ok (.aload_n 0, 1) := by decide +kernel
theorem dX11_buyOn_1 : decode cX11_buyOn 1 = .ok (.iconst 2, 1) := by decide +kernel
theorem dX11_buyOn_2 : decode cX11_buyOn 2 = .ok (.dup2, 1) := by decide +kernel
theorem dX11_buyOn_3 : decode cX11_buyOn 3 = .ok (.iaload, 1) := by decide +kernel
theorem dX11_buyOn_4 : decode cX11_buyOn 4 = .ok (.iload_n 1, 1) := by decide +kernel
theorem dX11_buyOn_5 : decode cX11_buyOn 5 = .ok (.iadd, 1) := by decide +kernel
theorem dX11_buyOn_6 : decode cX11_buyOn 6 = .ok (.iastore, 1) := by decide +kernel
theorem dX11_buyOn_7 : decode cX11_buyOn 7 = .ok (.aload_n 0, 1) := by decide +kernel
theorem dX11_buyOn_8 : decode cX11_buyOn 8 = .ok (.bipush 16, 2) := by decide +kernel
theorem dX11_buyOn_10 : decode cX11_buyOn 10 = .ok (.dup2, 1) := by decide +kernel
theorem dX11_buyOn_11 : decode cX11_buyOn 11 = .ok (.iaload, 1) := by decide +kernel
theorem dX11_buyOn_12 : decode cX11_buyOn 12 = .ok (.iload_n 1, 1) := by decide +kernel
theorem dX11_buyOn_13 : decode cX11_buyOn 13 = .ok (.iadd, 1) := by decide +kernel
theorem dX11_buyOn_14 : decode cX11_buyOn 14 = .ok (.iastore, 1) := by decide +kernel
theorem dX11_buyOn_15 : decode cX11_buyOn 15 = .ok (.aload_n 0, 1) := by decide +kernel
theorem dX11_buyOn_16 : decode cX11_buyOn 16 = .ok (.bipush 22, 2) := by decide +kernel
theorem dX11_buyOn_18 : decode cX11_buyOn 18 = .ok (.dup2, 1) := by decide +kernel
theorem dX11_buyOn_19 : decode cX11_buyOn 19 = .ok (.iaload, 1) := by decide +kernel
theorem dX11_buyOn_20 : decode cX11_buyOn 20 = .ok (.iconst 3, 1) := by decide +kernel
theorem dX11_buyOn_21 : decode cX11_buyOn 21 = .ok (.iload_n 1, 1) := by decide +kernel
theorem dX11_buyOn_22 : decode cX11_buyOn 22 = .ok (.imul, 1) := by decide +kernel
theorem dX11_buyOn_23 : decode cX11_buyOn 23 = .ok (.iadd, 1) := by decide +kernel
theorem dX11_buyOn_24 : decode cX11_buyOn 24 = .ok (.iastore, 1) := by decide +kernel
theorem dX11_buyOn_25 : decode cX11_buyOn 25 = .ok (.return_, 1) := by decide +kernel
theorem dX11_buy_0 : decode cX11_buy 0 = .ok (.iload_n 1, 1) := by decide +kernel
theorem dX11_buy_1 : decode cX11_buy 1 = .ok (.i2l, 1) := by decide +kernel
theorem dX11_buy_2 : decode cX11_buy 2 = .ok (.lconst 1, 1) := by decide +kernel
theorem dX11_buy_3 : decode cX11_buy 3 = .ok (.ldc2_w 159, 3) := by decide +kernel
theorem dX11_buy_6 : decode cX11_buy 6 = .ok (.invokestatic 36, 3) := by decide +kernel
theorem dX11_buy_9 : decode cX11_buy 9 = .ok (.istore_n 2, 1) := by decide +kernel
theorem dX11_buy_10 : decode cX11_buy 10 = .ok (.aload_n 0, 1) := by decide +kernel
theorem dX11_buy_11 : decode cX11_buy 11 = .ok (.iload_n 2, 1) := by decide +kernel
theorem dX11_buy_12 : decode cX11_buy 12 = .ok (.ifCond .ne 7, 3) := by decide +kernel
theorem dX11_buy_15 : decode cX11_buy 15 = .ok (.iconst 1, 1) := by decide +kernel
theorem dX11_buy_16 : decode cX11_buy 16 = .ok (.goto 22, 3) := by decide +kernel
theorem dX11_buy_19 : decode cX11_buy 19 = .ok (.aload_n 0, 1) := by decide +kernel
theorem dX11_buy_20 : decode cX11_buy 20 = .ok (.getfield 16, 3) := by decide +kernel
theorem dX11_buy_23 : decode cX11_buy 23 = .ok (.iconst 2, 1) := by decide +kernel
theorem dX11_buy_24 : decode cX11_buy 24 = .ok (.iaload, 1) := by decide +kernel
theorem dX11_buy_25 : decode cX11_buy 25 = .ok (.iload_n 1, 1) := by decide +kernel
theorem dX11_buy_26 : decode cX11_buy 26 = .ok (.iadd, 1) := by decide +kernel
theorem dX11_buy_27 : decode cX11_buy 27 = .ok (.sipush 9999, 3) := by decide +kernel
theorem dX11_buy_30 : decode cX11_buy 30 = .ok (.if_icmp .le 7, 3) := by decide +kernel
theorem dX11_buy_33 : decode cX11_buy 33 = .ok (.iconst 2, 1) := by decide +kernel
theorem dX11_buy_34 : decode cX11_buy 34 = .ok (.goto 4, 3) := by decide +kernel
theorem dX11_buy_37 : decode cX11_buy 37 = .ok (.iconst 0, 1) := by decide +kernel
theorem dX11_buy_38 : decode cX11_buy 38 = .ok (.invokevirtual 111, 3) := by decide +kernel
theorem dX11_buy_41 : decode cX11_buy 41 = .ok (.ifCond .eq 5, 3) := by decide +kernel
theorem dX11_buy_44 : decode cX11_buy 44 = .ok (.iconst 0, 1) := by decide +kernel
theorem dX11_buy_45 : decode cX11_buy 45 = .ok (.ireturn, 1) := by decide +kernel
theorem dX11_buy_46 : decode cX11_buy 46 = .ok (.aload_n 0, 1) := by decide +kernel
theorem dX11_buy_47 : decode cX11_buy 47 = .ok (.invokevirtual 165, 3) := by decide +kernel
theorem dX11_buy_50 : decode cX11_buy 50 = .ok (.aload_n 0, 1) := by decide +kernel
theorem dX11_buy_51 : decode cX11_buy 51 = .ok (.getfield 16, 3) := by decide +kernel
theorem dX11_buy_54 : decode cX11_buy 54 = .ok (.iload_n 1, 1) := by decide +kernel
theorem dX11_buy_55 : decode cX11_buy 55 = .ok (.invokestatic 185, 3) := by decide +kernel
theorem dX11_buy_58 : decode cX11_buy 58 = .ok (.aload_n 0, 1) := by decide +kernel
theorem dX11_buy_59 : decode cX11_buy 59 = .ok (.getfield 16, 3) := by decide +kernel
theorem dX11_buy_62 : decode cX11_buy 62 = .ok (.iconst 2, 1) := by decide +kernel
theorem dX11_buy_63 : decode cX11_buy 63 = .ok (.iaload, 1) := by decide +kernel
theorem dX11_buy_64 : decode cX11_buy 64 = .ok (.ireturn, 1) := by decide +kernel
theorem dX11_setWaves_0 : decode cX11_setWaves 0 = .ok (.aload_n 0, 1) := by decide +kernel
theorem dX11_setWaves_1 : decode cX11_setWaves 1 = .ok (.iload_n 1, 1) := by decide +kernel
theorem dX11_setWaves_2 : decode cX11_setWaves 2 = .ok (.i2l, 1) := by decide +kernel
theorem dX11_setWaves_3 : decode cX11_setWaves 3 = .ok (.lconst 0, 1) := by decide +kernel
theorem dX11_setWaves_4 : decode cX11_setWaves 4 = .ok (.aload_n 0, 1) := by decide +kernel
theorem dX11_setWaves_5 : decode cX11_setWaves 5 = .ok (.getfield 16, 3) := by decide +kernel
theorem dX11_setWaves_8 : decode cX11_setWaves 8 = .ok (.bipush 6, 2) := by decide +kernel
theorem dX11_setWaves_10 : decode cX11_setWaves 10 = .ok (.iaload, 1) := by decide +kernel
theorem dX11_setWaves_11 : decode cX11_setWaves 11 = .ok (.iconst 1, 1) := by decide +kernel
theorem dX11_setWaves_12 : decode cX11_setWaves 12 = .ok (.isub, 1) := by decide +kernel
theorem dX11_setWaves_13 : decode cX11_setWaves 13 = .ok (.i2l, 1) := by decide +kernel
theorem dX11_setWaves_14 : decode cX11_setWaves 14 = .ok (.invokestatic 36, 3) := by decide +kernel
theorem dX11_setWaves_17 : decode cX11_setWaves 17 = .ok (.ifCond .eq 19, 3) := by decide +kernel
theorem dX11_setWaves_20 : decode cX11_setWaves 20 = .ok (.iload_n 2, 1) := by decide +kernel
theorem dX11_setWaves_21 : decode cX11_setWaves 21 = .ok (.i2l, 1) := by decide +kernel
theorem dX11_setWaves_22 : decode cX11_setWaves 22 = .ok (.lconst 0, 1) := by decide +kernel
theorem dX11_setWaves_23 : decode cX11_setWaves 23 = .ok (.ldc2_w 118, 3) := by decide +kernel
theorem dX11_setWaves_26 : decode cX11_setWaves 26 = .ok (.invokestatic 36, 3) := by decide +kernel
theorem dX11_setWaves_29 : decode cX11_setWaves 29 = .ok (.ifCond .eq 7, 3) := by decide +kernel
theorem dX11_setWaves_32 : decode cX11_setWaves 32 = .ok (.iconst 0, 1) := by decide +kernel
theorem dX11_setWaves_33 : decode cX11_setWaves 33 = .ok (.goto 4, 3) := by decide +kernel
theorem dX11_setWaves_36 : decode cX11_setWaves 36 = .ok (.iconst 1, 1) := by decide +kernel
theorem dX11_setWaves_37 : decode cX11_setWaves 37 = .ok (.invokevirtual 111, 3) := by decide +kernel
theorem dX11_setWaves_40 : decode cX11_setWaves 40 = .ok (.ifCond .eq 5, 3) := by decide +kernel
theorem dX11_setWaves_43 : decode cX11_setWaves 43 = .ok (.iconst 0, 1) := by decide +kernel
theorem dX11_setWaves_44 : decode cX11_setWaves 44 = .ok (.ireturn, 1) := by decide +kernel
theorem dX11_setWaves_45 : decode cX11_setWaves 45 = .ok (.aload_n 0, 1) := by decide +kernel
theorem dX11_setWaves_46 : decode cX11_setWaves 46 = .ok (.invokevirtual 165, 3) := by decide +kernel
theorem dX11_setWaves_49 : decode cX11_setWaves 49 = .ok (.aload_n 0, 1) := by decide +kernel
theorem dX11_setWaves_50 : decode cX11_setWaves 50 = .ok (.getfield 16, 3) := by decide +kernel
theorem dX11_setWaves_53 : decode cX11_setWaves 53 = .ok (.bipush 91, 2) := by decide +kernel
theorem dX11_setWaves_55 : decode cX11_setWaves 55 = .ok (.iload_n 1, 1) := by decide +kernel
theorem dX11_setWaves_56 : decode cX11_setWaves 56 = .ok (.iadd, 1) := by decide +kernel
theorem dX11_setWaves_57 : decode cX11_setWaves 57 = .ok (.iaload, 1) := by decide +kernel
theorem dX11_setWaves_58 : decode cX11_setWaves 58 = .ok (.istore_n 3, 1) := by decide +kernel
theorem dX11_setWaves_59 : decode cX11_setWaves 59 = .ok (.aload_n 0, 1) := by decide +kernel
theorem dX11_setWaves_60 : decode cX11_setWaves 60 = .ok (.getfield 16, 3) := by decide +kernel
theorem dX11_setWaves_63 : decode cX11_setWaves 63 = .ok (.bipush 91, 2) := by decide +kernel
theorem dX11_setWaves_65 : decode cX11_setWaves 65 = .ok (.iload_n 1, 1) := by decide +kernel
theorem dX11_setWaves_66 : decode cX11_setWaves 66 = .ok (.iadd, 1) := by decide +kernel
theorem dX11_setWaves_67 : decode cX11_setWaves 67 = .ok (.iload_n 2, 1) := by decide +kernel
theorem dX11_setWaves_68 : decode cX11_setWaves 68 = .ok (.iastore, 1) := by decide +kernel
theorem dX11_setWaves_69 : decode cX11_setWaves 69 = .ok (.iload_n 3, 1) := by decide +kernel
theorem dX11_setWaves_70 : decode cX11_setWaves 70 = .ok (.ireturn, 1) := by decide +kernel
theorem dX11_pass_0 : decode cX11_pass 0 = .ok (.aload_n 0, 1) := by decide +kernel
theorem dX11_pass_1 : decode cX11_pass 1 = .ok (.iload_n 1, 1) := by decide +kernel
theorem dX11_pass_2 : decode cX11_pass 2 = .ok (.i2l, 1) := by decide +kernel
theorem dX11_pass_3 : decode cX11_pass 3 = .ok (.lconst 1, 1) := by decide +kernel
theorem dX11_pass_4 : decode cX11_pass 4 = .ok (.ldc2_w 177, 3) := by decide +kernel
theorem dX11_pass_7 : decode cX11_pass 7 = .ok (.invokestatic 36, 3) := by decide +kernel
theorem dX11_pass_10 : decode cX11_pass 10 = .ok (.ifCond .eq 7, 3) := by decide +kernel
theorem dX11_pass_13 : decode cX11_pass 13 = .ok (.iconst 0, 1) := by decide +kernel
theorem dX11_pass_14 : decode cX11_pass 14 = .ok (.goto 4, 3) := by decide +kernel
theorem dX11_pass_17 : decode cX11_pass 17 = .ok (.iconst 1, 1) := by decide +kernel
theorem dX11_pass_18 : decode cX11_pass 18 = .ok (.invokevirtual 111, 3) := by decide +kernel
theorem dX11_pass_21 : decode cX11_pass 21 = .ok (.ifCond .eq 5, 3) := by decide +kernel
theorem dX11_pass_24 : decode cX11_pass 24 = .ok (.iconst 0, 1) := by decide +kernel
theorem dX11_pass_25 : decode cX11_pass 25 = .ok (.ireturn, 1) := by decide +kernel
theorem dX11_pass_26 : decode cX11_pass 26 = .ok (.aload_n 0, 1) := by decide +kernel
theorem dX11_pass_27 : decode cX11_pass 27 = .ok (.invokevirtual 165, 3) := by decide +kernel
theorem dX11_pass_30 : decode cX11_pass 30 = .ok (.aload_n 0, 1) := by decide +kernel
theorem dX11_pass_31 : decode cX11_pass 31 = .ok (.getfield 16, 3) := by decide +kernel
theorem dX11_pass_34 : decode cX11_pass 34 = .ok (.iload_n 1, 1) := by decide +kernel
theorem dX11_pass_35 : decode cX11_pass 35 = .ok (.invokestatic 189, 3) := by decide +kernel
theorem dX11_pass_38 : decode cX11_pass 38 = .ok (.ireturn, 1) := by decide +kernel
theorem dX11_undo_0 : decode cX11_undo 0 = .ok (.aload_n 0, 1) := by decide +kernel
theorem dX11_undo_1 : decode cX11_undo 1 = .ok (.aload_n 0, 1) := by decide +kernel
theorem dX11_undo_2 : decode cX11_undo 2 = .ok (.getfield 141, 3) := by decide +kernel
theorem dX11_undo_5 : decode cX11_undo 5 = .ok (.ifCond .ne 7, 3) := by decide +kernel
theorem dX11_undo_8 : decode cX11_undo 8 = .ok (.iconst 1, 1) := by decide +kernel
theorem dX11_undo_9 : decode cX11_undo 9 = .ok (.goto 4, 3) := by decide +kernel
theorem dX11_undo_12 : decode cX11_undo 12 = .ok (.iconst 0, 1) := by decide +kernel
theorem dX11_undo_13 : decode cX11_undo 13 = .ok (.invokevirtual 111, 3) := by decide +kernel
theorem dX11_undo_16 : decode cX11_undo 16 = .ok (.ifCond .eq 5, 3) := by decide +kernel
theorem dX11_undo_19 : decode cX11_undo 19 = .ok (.iconst 0, 1) := by decide +kernel
theorem dX11_undo_20 : decode cX11_undo 20 = .ok (.ireturn, 1) := by decide +kernel
theorem dX11_undo_21 : decode cX11_undo 21 = .ok (.aload_n 0, 1) := by decide +kernel
theorem dX11_undo_22 : decode cX11_undo 22 = .ok (.dup, 1) := by decide +kernel
theorem dX11_undo_23 : decode cX11_undo 23 = .ok (.getfield 141, 3) := by decide +kernel
theorem dX11_undo_26 : decode cX11_undo 26 = .ok (.iconst 1, 1) := by decide +kernel
theorem dX11_undo_27 : decode cX11_undo 27 = .ok (.isub, 1) := by decide +kernel
theorem dX11_undo_28 : decode cX11_undo 28 = .ok (.putfield 141, 3) := by decide +kernel
theorem dX11_undo_31 : decode cX11_undo 31 = .ok (.aload_n 0, 1) := by decide +kernel
theorem dX11_undo_32 : decode cX11_undo 32 = .ok (.getfield 22, 3) := by decide +kernel
theorem dX11_undo_35 : decode cX11_undo 35 = .ok (.bipush 121, 2) := by decide +kernel
theorem dX11_undo_37 : decode cX11_undo 37 = .ok (.aload_n 0, 1) := by decide +kernel
theorem dX11_undo_38 : decode cX11_undo 38 = .ok (.getfield 141, 3) := by decide +kernel
theorem dX11_undo_41 : decode cX11_undo 41 = .ok (.imul, 1) := by decide +kernel
theorem dX11_undo_42 : decode cX11_undo 42 = .ok (.aload_n 0, 1) := by decide +kernel
theorem dX11_undo_43 : decode cX11_undo 43 = .ok (.getfield 16, 3) := by decide +kernel
theorem dX11_undo_46 : decode cX11_undo 46 = .ok (.iconst 0, 1) := by decide +kernel
theorem dX11_undo_47 : decode cX11_undo 47 = .ok (.invokestatic 137, 3) := by decide +kernel
theorem dX11_undo_50 : decode cX11_undo 50 = .ok (.aload_n 0, 1) := by decide +kernel
theorem dX11_undo_51 : decode cX11_undo 51 = .ok (.getfield 141, 3) := by decide +kernel
theorem dX11_undo_54 : decode cX11_undo 54 = .ok (.ireturn, 1) := by decide +kernel
theorem dX11_needs_0 : decode cX11_needs 0 = .ok (.aload_n 0, 1) := by decide +kernel
theorem dX11_needs_1 : decode cX11_needs 1 = .ok (.aload_n 0, 1) := by decide +kernel
theorem dX11_needs_2 : decode cX11_needs 2 = .ok (.getfield 16, 3) := by decide +kernel
theorem dX11_needs_5 : decode cX11_needs 5 = .ok (.iload_n 1, 1) := by decide +kernel
theorem dX11_needs_6 : decode cX11_needs 6 = .ok (.invokestatic 146, 3) := by decide +kernel
theorem dX11_needs_9 : decode cX11_needs 9 = .ok (.ifCond .ne 7, 3) := by decide +kernel
theorem dX11_needs_12 : decode cX11_needs 12 = .ok (.iconst 1, 1) := by decide +kernel
theorem dX11_needs_13 : decode cX11_needs 13 = .ok (.goto 20, 3) := by decide +kernel
theorem dX11_needs_16 : decode cX11_needs 16 = .ok (.iload_n 2, 1) := by decide +kernel
theorem dX11_needs_17 : decode cX11_needs 17 = .ok (.i2l, 1) := by decide +kernel
theorem dX11_needs_18 : decode cX11_needs 18 = .ok (.lconst 0, 1) := by decide +kernel
theorem dX11_needs_19 : decode cX11_needs 19 = .ok (.ldc2_w 177, 3) := by decide +kernel
theorem dX11_needs_22 : decode cX11_needs 22 = .ok (.invokestatic 36, 3) := by decide +kernel
theorem dX11_needs_25 : decode cX11_needs 25 = .ok (.ifCond .ne 7, 3) := by decide +kernel
theorem dX11_needs_28 : decode cX11_needs 28 = .ok (.iconst 2, 1) := by decide +kernel
theorem dX11_needs_29 : decode cX11_needs 29 = .ok (.goto 4, 3) := by decide +kernel
theorem dX11_needs_32 : decode cX11_needs 32 = .ok (.iconst 0, 1) := by decide +kernel
theorem dX11_needs_33 : decode cX11_needs 33 = .ok (.invokevirtual 111, 3) := by decide +kernel
theorem dX11_needs_36 : decode cX11_needs 36 = .ok (.ifCond .eq 7, 3) := by decide +kernel
theorem dX11_needs_39 : decode cX11_needs 39 = .ok (.iconst 0, 1) := by decide +kernel
theorem dX11_needs_40 : decode cX11_needs 40 = .ok (.goto 12, 3) := by decide +kernel
theorem dX11_needs_43 : decode cX11_needs 43 = .ok (.aload_n 0, 1) := by decide +kernel
theorem dX11_needs_44 : decode cX11_needs 44 = .ok (.getfield 16, 3) := by decide +kernel
theorem dX11_needs_47 : decode cX11_needs 47 = .ok (.iload_n 1, 1) := by decide +kernel
theorem dX11_needs_48 : decode cX11_needs 48 = .ok (.iload_n 2, 1) := by decide +kernel
theorem dX11_needs_49 : decode cX11_needs 49 = .ok (.invokestatic 44, 3) := by decide +kernel
theorem dX11_needs_52 : decode cX11_needs 52 = .ok (.ireturn, 1) := by decide +kernel
theorem dX11_reach_0 : decode cX11_reach 0 = .ok (.aload_n 0, 1) := by decide +kernel
theorem dX11_reach_1 : decode cX11_reach 1 = .ok (.aload_n 0, 1) := by decide +kernel
theorem dX11_reach_2 : decode cX11_reach 2 = .ok (.getfield 16, 3) := by decide +kernel
theorem dX11_reach_5 : decode cX11_reach 5 = .ok (.iload_n 1, 1) := by decide +kernel
theorem dX11_reach_6 : decode cX11_reach 6 = .ok (.invokestatic 152, 3) := by decide +kernel
theorem dX11_reach_9 : decode cX11_reach 9 = .ok (.ifCond .eq 18, 3) := by decide +kernel
theorem dX11_reach_12 : decode cX11_reach 12 = .ok (.aload_n 0, 1) := by decide +kernel
theorem dX11_reach_13 : decode cX11_reach 13 = .ok (.getfield 16, 3) := by decide +kernel
theorem dX11_reach_16 : decode cX11_reach 16 = .ok (.iload_n 2, 1) := by decide +kernel
theorem dX11_reach_17 : decode cX11_reach 17 = .ok (.invokestatic 146, 3) := by decide +kernel
theorem dX11_reach_20 : decode cX11_reach 20 = .ok (.ifCond .eq 7, 3) := by decide +kernel
theorem dX11_reach_23 : decode cX11_reach 23 = .ok (.iconst 0, 1) := by decide +kernel
theorem dX11_reach_24 : decode cX11_reach 24 = .ok (.goto 4, 3) := by decide +kernel
theorem dX11_reach_27 : decode cX11_reach 27 = .ok (.iconst 1, 1) := by decide +kernel
theorem dX11_reach_28 : decode cX11_reach 28 = .ok (.invokevirtual 111, 3) := by decide +kernel
theorem dX11_reach_31 : decode cX11_reach 31 = .ok (.ifCond .eq 7, 3) := by decide +kernel
theorem dX11_reach_34 : decode cX11_reach 34 = .ok (.iconst 0, 1) := by decide +kernel
theorem dX11_reach_35 : decode cX11_reach 35 = .ok (.goto 21, 3) := by decide +kernel
theorem dX11_reach_38 : decode cX11_reach 38 = .ok (.aload_n 0, 1) := by decide +kernel
theorem dX11_reach_39 : decode cX11_reach 39 = .ok (.getfield 16, 3) := by decide +kernel
theorem dX11_reach_42 : decode cX11_reach 42 = .ok (.iload_n 1, 1) := by decide +kernel
theorem dX11_reach_43 : decode cX11_reach 43 = .ok (.iload_n 2, 1) := by decide +kernel
theorem dX11_reach_44 : decode cX11_reach 44 = .ok (.aload_n 0, 1) := by decide +kernel
theorem dX11_reach_45 : decode cX11_reach 45 = .ok (.getfield 16, 3) := by decide +kernel
theorem dX11_reach_48 : decode cX11_reach 48 = .ok (.iload_n 2, 1) := by decide +kernel
theorem dX11_reach_49 : decode cX11_reach 49 = .ok (.invokestatic 40, 3) := by decide +kernel
theorem dX11_reach_52 : decode cX11_reach 52 = .ok (.iaload, 1) := by decide +kernel
theorem dX11_reach_53 : decode cX11_reach 53 = .ok (.invokestatic 59, 3) := by decide +kernel
theorem dX11_reach_56 : decode cX11_reach 56 = .ok (.ireturn, 1) := by decide +kernel
theorem dX11_calmDays_0 : decode cX11_calmDays 0 = .ok (.aload_n 0, 1) := by decide +kernel
theorem dX11_calmDays_1 : decode cX11_calmDays 1 = .ok (.aload_n 0, 1) := by decide +kernel
theorem dX11_calmDays_2 : decode cX11_calmDays 2 = .ok (.getfield 16, 3) := by decide +kernel
theorem dX11_calmDays_5 : decode cX11_calmDays 5 = .ok (.iload_n 1, 1) := by decide +kernel
theorem dX11_calmDays_6 : decode cX11_calmDays 6 = .ok (.invokestatic 152, 3) := by decide +kernel
theorem dX11_calmDays_9 : decode cX11_calmDays 9 = .ok (.ifCond .eq 18, 3) := by decide +kernel
theorem dX11_calmDays_12 : decode cX11_calmDays 12 = .ok (.aload_n 0, 1) := by decide +kernel
theorem dX11_calmDays_13 : decode cX11_calmDays 13 = .ok (.getfield 16, 3) := by decide +kernel
theorem dX11_calmDays_16 : decode cX11_calmDays 16 = .ok (.iload_n 2, 1) := by decide +kernel
theorem dX11_calmDays_17 : decode cX11_calmDays 17 = .ok (.invokestatic 146, 3) := by decide +kernel
theorem dX11_calmDays_20 : decode cX11_calmDays 20 = .ok (.ifCond .eq 7, 3) := by decide +kernel
theorem dX11_calmDays_23 : decode cX11_calmDays 23 = .ok (.iconst 0, 1) := by decide +kernel
theorem dX11_calmDays_24 : decode cX11_calmDays 24 = .ok (.goto 4, 3) := by decide +kernel
theorem dX11_calmDays_27 : decode cX11_calmDays 27 = .ok (.iconst 1, 1) := by decide +kernel
theorem dX11_calmDays_28 : decode cX11_calmDays 28 = .ok (.invokevirtual 111, 3) := by decide +kernel
theorem dX11_calmDays_31 : decode cX11_calmDays 31 = .ok (.ifCond .eq 5, 3) := by decide +kernel
theorem dX11_calmDays_34 : decode cX11_calmDays 34 = .ok (.iconst 0, 1) := by decide +kernel
theorem dX11_calmDays_35 : decode cX11_calmDays 35 = .ok (.ireturn, 1) := by decide +kernel
theorem dX11_calmDays_36 : decode cX11_calmDays 36 = .ok (.aload_n 0, 1) := by decide +kernel
theorem dX11_calmDays_37 : decode cX11_calmDays 37 = .ok (.getfield 16, 3) := by decide +kernel
theorem dX11_calmDays_40 : decode cX11_calmDays 40 = .ok (.iload_n 2, 1) := by decide +kernel
theorem dX11_calmDays_41 : decode cX11_calmDays 41 = .ok (.invokestatic 40, 3) := by decide +kernel
theorem dX11_calmDays_44 : decode cX11_calmDays 44 = .ok (.iconst 1, 1) := by decide +kernel
theorem dX11_calmDays_45 : decode cX11_calmDays 45 = .ok (.iadd, 1) := by decide +kernel
theorem dX11_calmDays_46 : decode cX11_calmDays 46 = .ok (.iaload, 1) := by decide +kernel
theorem dX11_calmDays_47 : decode cX11_calmDays 47 = .ok (.istore_n 3, 1) := by decide +kernel
theorem dX11_calmDays_48 : decode cX11_calmDays 48 = .ok (.iconst 0, 1) := by decide +kernel
theorem dX11_calmDays_49 : decode cX11_calmDays 49 = .ok (.istore 4, 2) := by decide +kernel
theorem dX11_calmDays_51 : decode cX11_calmDays 51 = .ok (.iload_n 3, 1) := by decide +kernel
theorem dX11_calmDays_52 : decode cX11_calmDays 52 = .ok (.aload_n 0, 1) := by decide +kernel
theorem dX11_calmDays_53 : decode cX11_calmDays 53 = .ok (.getfield 16, 3) := by decide +kernel
theorem dX11_calmDays_56 : decode cX11_calmDays 56 = .ok (.iconst 3, 1) := by decide +kernel
theorem dX11_calmDays_57 : decode cX11_calmDays 57 = .ok (.iaload, 1) := by decide +kernel
theorem dX11_calmDays_58 : decode cX11_calmDays 58 = .ok (.if_icmp .ge 12, 3) := by decide +kernel
theorem dX11_calmDays_61 : decode cX11_calmDays 61 = .ok (.aload_n 0, 1) := by decide +kernel
theorem dX11_calmDays_62 : decode cX11_calmDays 62 = .ok (.getfield 16, 3) := by decide +kernel
theorem dX11_calmDays_65 : decode cX11_calmDays 65 = .ok (.iconst 3, 1) := by decide +kernel
theorem dX11_calmDays_66 : decode cX11_calmDays 66 = .ok (.iaload, 1) := by decide +kernel
theorem dX11_calmDays_67 : decode cX11_calmDays 67 = .ok (.goto 4, 3) := by decide +kernel
theorem dX11_calmDays_70 : decode cX11_calmDays 70 = .ok (.iload_n 3, 1) := by decide +kernel
theorem dX11_calmDays_71 : decode cX11_calmDays 71 = .ok (.istore 5, 2) := by decide +kernel
theorem dX11_calmDays_73 : decode cX11_calmDays 73 = .ok (.iload 5, 2) := by decide +kernel
theorem dX11_calmDays_75 : decode cX11_calmDays 75 = .ok (.aload_n 0, 1) := by decide +kernel
theorem dX11_calmDays_76 : decode cX11_calmDays 76 = .ok (.getfield 16, 3) := by decide +kernel
theorem dX11_calmDays_79 : decode cX11_calmDays 79 = .ok (.iload_n 2, 1) := by decide +kernel
theorem dX11_calmDays_80 : decode cX11_calmDays 80 = .ok (.invokestatic 40, 3) := by decide +kernel
theorem dX11_calmDays_83 : decode cX11_calmDays 83 = .ok (.iconst 2, 1) := by decide +kernel
theorem dX11_calmDays_84 : decode cX11_calmDays 84 = .ok (.iadd, 1) := by decide +kernel
theorem dX11_calmDays_85 : decode cX11_calmDays 85 = .ok (.iaload, 1) := by decide +kernel
theorem dX11_calmDays_86 : decode cX11_calmDays 86 = .ok (.if_icmp .gt 42, 3) := by decide +kernel
theorem dX11_calmDays_89 : decode cX11_calmDays 89 = .ok (.iload 4, 2) := by decide +kernel
theorem dX11_calmDays_91 : decode cX11_calmDays 91 = .ok (.aload_n 0, 1) := by decide +kernel
theorem dX11_calmDays_92 : decode cX11_calmDays 92 = .ok (.getfield 16, 3) := by decide +kernel
theorem dX11_calmDays_95 : decode cX11_calmDays 95 = .ok (.iload 5, 2) := by decide +kernel
theorem dX11_calmDays_97 : decode cX11_calmDays 97 = .ok (.invokestatic 70, 3) := by decide +kernel
theorem dX11_calmDays_100 : decode cX11_calmDays 100 = .ok (.aload_n 0, 1) := by decide +kernel
theorem dX11_calmDays_101 : decode cX11_calmDays 101 = .ok (.getfield 16, 3) := by decide +kernel
theorem dX11_calmDays_104 : decode cX11_calmDays 104 = .ok (.iload_n 1, 1) := by decide +kernel
theorem dX11_calmDays_105 : decode cX11_calmDays 105 = .ok (.invokestatic 48, 3) := by decide +kernel
theorem dX11_calmDays_108 : decode cX11_calmDays 108 = .ok (.iconst 2, 1) := by decide +kernel
theorem dX11_calmDays_109 : decode cX11_calmDays 109 = .ok (.iadd, 1) := by decide +kernel
theorem dX11_calmDays_110 : decode cX11_calmDays 110 = .ok (.iaload, 1) := by decide +kernel
theorem dX11_calmDays_111 : decode cX11_calmDays 111 = .ok (.if_icmp .gt 7, 3) := by decide +kernel
theorem dX11_calmDays_114 : decode cX11_calmDays 114 = .ok (.iconst 1, 1) := by decide +kernel
theorem dX11_calmDays_115 : decode cX11_calmDays 115 = .ok (.goto 4, 3) := by decide +kernel
theorem dX11_calmDays_118 : decode cX11_calmDays 118 = .ok (.iconst 0, 1) := by decide +kernel
theorem dX11_calmDays_119 : decode cX11_calmDays 119 = .ok (.iadd, 1) := by decide +kernel
theorem dX11_calmDays_120 : decode cX11_calmDays 120 = .ok (.istore 4, 2) := by decide +kernel
theorem dX11_calmDays_122 : decode cX11_calmDays 122 = .ok (.iinc 5 1, 3) := by decide +kernel
theorem dX11_calmDays_125 : decode cX11_calmDays 125 = .ok (.goto (-52), 3) := by decide +kernel
theorem dX11_calmDays_128 : decode cX11_calmDays 128 = .ok (.iload 4, 2) := by decide +kernel
theorem dX11_calmDays_130 : decode cX11_calmDays 130 = .ok (.ireturn, 1) := by decide +kernel
theorem dX11_ahead_0 : decode cX11_ahead 0 = .ok (.aload_n 0, 1) := by decide +kernel
theorem dX11_ahead_1 : decode cX11_ahead 1 = .ok (.iload_n 1, 1) := by decide +kernel
theorem dX11_ahead_2 : decode cX11_ahead 2 = .ok (.i2l, 1) := by decide +kernel
theorem dX11_ahead_3 : decode cX11_ahead 3 = .ok (.lconst 0, 1) := by decide +kernel
theorem dX11_ahead_4 : decode cX11_ahead 4 = .ok (.ldc2_w 177, 3) := by decide +kernel
theorem dX11_ahead_7 : decode cX11_ahead 7 = .ok (.invokestatic 36, 3) := by decide +kernel
theorem dX11_ahead_10 : decode cX11_ahead 10 = .ok (.ifCond .eq 19, 3) := by decide +kernel
theorem dX11_ahead_13 : decode cX11_ahead 13 = .ok (.iload_n 2, 1) := by decide +kernel
theorem dX11_ahead_14 : decode cX11_ahead 14 = .ok (.i2l, 1) := by decide +kernel
theorem dX11_ahead_15 : decode cX11_ahead 15 = .ok (.lconst 0, 1) := by decide +kernel
theorem dX11_ahead_16 : decode cX11_ahead 16 = .ok (.ldc2_w 150, 3) := by decide +kernel
theorem dX11_ahead_19 : decode cX11_ahead 19 = .ok (.invokestatic 36, 3) := by decide +kernel
theorem dX11_ahead_22 : decode cX11_ahead 22 = .ok (.ifCond .eq 7, 3) := by decide +kernel
theorem dX11_ahead_25 : decode cX11_ahead 25 = .ok (.iconst 0, 1) := by decide +kernel
theorem dX11_ahead_26 : decode cX11_ahead 26 = .ok (.goto 4, 3) := by decide +kernel
theorem dX11_ahead_29 : decode cX11_ahead 29 = .ok (.iconst 1, 1) := by decide +kernel
theorem dX11_ahead_30 : decode cX11_ahead 30 = .ok (.invokevirtual 111, 3) := by decide +kernel
theorem dX11_ahead_33 : decode cX11_ahead 33 = .ok (.ifCond .eq 5, 3) := by decide +kernel
theorem dX11_ahead_36 : decode cX11_ahead 36 = .ok (.iconst 0, 1) := by decide +kernel
theorem dX11_ahead_37 : decode cX11_ahead 37 = .ok (.ireturn, 1) := by decide +kernel
theorem dX11_ahead_38 : decode cX11_ahead 38 = .ok (.aload_n 0, 1) := by decide +kernel
theorem dX11_ahead_39 : decode cX11_ahead 39 = .ok (.getfield 16, 3) := by decide +kernel
theorem dX11_ahead_42 : decode cX11_ahead 42 = .ok (.iconst 0, 1) := by decide +kernel
theorem dX11_ahead_43 : decode cX11_ahead 43 = .ok (.aload_n 0, 1) := by decide +kernel
theorem dX11_ahead_44 : decode cX11_ahead 44 = .ok (.getfield 19, 3) := by decide +kernel
theorem dX11_ahead_47 : decode cX11_ahead 47 = .ok (.iconst 0, 1) := by decide +kernel
theorem dX11_ahead_48 : decode cX11_ahead 48 = .ok (.invokestatic 137, 3) := by decide +kernel
theorem dX11_ahead_51 : decode cX11_ahead 51 = .ok (.aload_n 0, 1) := by decide +kernel
theorem dX11_ahead_52 : decode cX11_ahead 52 = .ok (.getfield 19, 3) := by decide +kernel
theorem dX11_ahead_55 : decode cX11_ahead 55 = .ok (.iload_n 1, 1) := by decide +kernel
theorem dX11_ahead_56 : decode cX11_ahead 56 = .ok (.invokestatic 189, 3) := by decide +kernel
theorem dX11_ahead_59 : decode cX11_ahead 59 = .ok (.istore_n 3, 1) := by decide +kernel
theorem dX11_ahead_60 : decode cX11_ahead 60 = .ok (.iload_n 2, 1) := by decide +kernel
theorem dX11_ahead_61 : decode cX11_ahead 61 = .ok (.ifCond .ne 7, 3) := by decide +kernel
theorem dX11_ahead_64 : decode cX11_ahead 64 = .ok (.iload_n 3, 1) := by decide +kernel
theorem dX11_ahead_65 : decode cX11_ahead 65 = .ok (.goto 71, 3) := by decide +kernel
theorem dX11_ahead_68 : decode cX11_ahead 68 = .ok (.iload_n 2, 1) := by decide +kernel
theorem dX11_ahead_69 : decode cX11_ahead 69 = .ok (.iconst 1, 1) := by decide +kernel
theorem dX11_ahead_70 : decode cX11_ahead 70 = .ok (.if_icmp .ne 13, 3) := by decide +kernel
theorem dX11_ahead_73 : decode cX11_ahead 73 = .ok (.aload_n 0, 1) := by decide +kernel
theorem dX11_ahead_74 : decode cX11_ahead 74 = .ok (.getfield 19, 3) := by decide +kernel
theorem dX11_ahead_77 : decode cX11_ahead 77 = .ok (.bipush 7, 2) := by decide +kernel
theorem dX11_ahead_79 : decode cX11_ahead 79 = .ok (.iaload, 1) := by decide +kernel
theorem dX11_ahead_80 : decode cX11_ahead 80 = .ok (.goto 56, 3) := by decide +kernel
theorem dX11_ahead_83 : decode cX11_ahead 83 = .ok (.iload_n 2, 1) := by decide +kernel
theorem dX11_ahead_84 : decode cX11_ahead 84 = .ok (.iconst 2, 1) := by decide +kernel
theorem dX11_ahead_85 : decode cX11_ahead 85 = .ok (.if_icmp .ne 21, 3) := by decide +kernel
theorem dX11_ahead_88 : decode cX11_ahead 88 = .ok (.aload_n 0, 1) := by decide +kernel
theorem dX11_ahead_89 : decode cX11_ahead 89 = .ok (.getfield 19, 3) := by decide +kernel
theorem dX11_ahead_92 : decode cX11_ahead 92 = .ok (.bipush 19, 2) := by decide +kernel
theorem dX11_ahead_94 : decode cX11_ahead 94 = .ok (.iaload, 1) := by decide +kernel
theorem dX11_ahead_95 : decode cX11_ahead 95 = .ok (.aload_n 0, 1) := by decide +kernel
theorem dX11_ahead_96 : decode cX11_ahead 96 = .ok (.getfield 16, 3) := by decide +kernel
theorem dX11_ahead_99 : decode cX11_ahead 99 = .ok (.bipush 19, 2) := by decide +kernel
theorem dX11_ahead_101 : decode cX11_ahead 101 = .ok (.iaload, 1) := by decide +kernel
theorem dX11_ahead_102 : decode cX11_ahead 102 = .ok (.isub, 1) := by decide +kernel
theorem dX11_ahead_103 : decode cX11_ahead 103 = .ok (.goto 33, 3) := by decide +kernel
theorem dX11_ahead_106 : decode cX11_ahead 106 = .ok (.iload_n 2, 1) := by decide +kernel
theorem dX11_ahead_107 : decode cX11_ahead 107 = .ok (.iconst 3, 1) := by decide +kernel
theorem dX11_ahead_108 : decode cX11_ahead 108 = .ok (.if_icmp .ne 21, 3) := by decide +kernel
theorem dX11_ahead_111 : decode cX11_ahead 111 = .ok (.aload_n 0, 1) := by decide +kernel
theorem dX11_ahead_112 : decode cX11_ahead 112 = .ok (.getfield 19, 3) := by decide +kernel
theorem dX11_ahead_115 : decode cX11_ahead 115 = .ok (.bipush 20, 2) := by decide +kernel
theorem dX11_ahead_117 : decode cX11_ahead 117 = .ok (.iaload, 1) := by decide +kernel
theorem dX11_ahead_118 : decode cX11_ahead 118 = .ok (.aload_n 0, 1) := by decide +kernel
theorem dX11_ahead_119 : decode cX11_ahead 119 = .ok (.getfield 16, 3) := by decide +kernel
theorem dX11_ahead_122 : decode cX11_ahead 122 = .ok (.bipush 20, 2) := by decide +kernel
theorem dX11_ahead_124 : decode cX11_ahead 124 = .ok (.iaload, 1) := by decide +kernel
theorem dX11_ahead_125 : decode cX11_ahead 125 = .ok (.isub, 1) := by decide +kernel
theorem dX11_ahead_126 : decode cX11_ahead 126 = .ok (.goto 10, 3) := by decide +kernel
theorem dX11_ahead_129 : decode cX11_ahead 129 = .ok (.aload_n 0, 1) := by decide +kernel
theorem dX11_ahead_130 : decode cX11_ahead 130 = .ok (.getfield 19, 3) := by decide +kernel
theorem dX11_ahead_133 : decode cX11_ahead 133 = .ok (.bipush 9, 2) := by decide +kernel
theorem dX11_ahead_135 : decode cX11_ahead 135 = .ok (.iaload, 1) := by decide +kernel
theorem dX11_ahead_136 : decode cX11_ahead 136 = .ok (.ireturn, 1) := by decide +kernel
theorem dX11_doneOf_0 : decode cX11_doneOf 0 = .ok (.iconst 0, 1) := by decide +kernel
theorem dX11_doneOf_1 : decode cX11_doneOf 1 = .ok (.istore_n 2, 1) := by decide +kernel
theorem dX11_doneOf_2 : decode cX11_doneOf 2 = .ok (.iload_n 2, 1) := by decide +kernel
theorem dX11_doneOf_3 : decode cX11_doneOf 3 = .ok (.sipush 400, 3) := by decide +kernel
theorem dX11_doneOf_6 : decode cX11_doneOf 6 = .ok (.if_icmp .gt 29, 3) := by decide +kernel
theorem dX11_doneOf_9 : decode cX11_doneOf 9 = .ok (.aload_n 0, 1) := by decide +kernel
theorem dX11_doneOf_10 : decode cX11_doneOf 10 = .ok (.getfield 19, 3) := by decide +kernel
theorem dX11_doneOf_13 : decode cX11_doneOf 13 = .ok (.bipush 7, 2) := by decide +kernel
theorem dX11_doneOf_15 : decode cX11_doneOf 15 = .ok (.iaload, 1) := by decide +kernel
theorem dX11_doneOf_16 : decode cX11_doneOf 16 = .ok (.iload_n 1, 1) := by decide +kernel
theorem dX11_doneOf_17 : decode cX11_doneOf 17 = .ok (.if_icmp .le 5, 3) := by decide +kernel
theorem dX11_doneOf_20 : decode cX11_doneOf 20 = .ok (.iload_n 2, 1) := by decide +kernel
theorem dX11_doneOf_21 : decode cX11_doneOf 21 = .ok (.ireturn, 1) := by decide +kernel
theorem dX11_doneOf_22 : decode cX11_doneOf 22 = .ok (.aload_n 0, 1) := by decide +kernel
theorem dX11_doneOf_23 : decode cX11_doneOf 23 = .ok (.getfield 19, 3) := by decide +kernel
theorem dX11_doneOf_26 : decode cX11_doneOf 26 = .ok (.invokestatic 95, 3) := by decide +kernel
theorem dX11_doneOf_29 : decode cX11_doneOf 29 = .ok (.iinc 2 1, 3) := by decide +kernel
theorem dX11_doneOf_32 : decode cX11_doneOf 32 = .ok (.goto (-30), 3) := by decide +kernel
theorem dX11_doneOf_35 : decode cX11_doneOf 35 = .ok (.bipush (-9), 2) := by decide +kernel
theorem dX11_doneOf_37 : decode cX11_doneOf 37 = .ok (.ireturn, 1) := by decide +kernel
theorem dX11_doneAfter_0 : decode cX11_doneAfter 0 = .ok (.aload_n 0, 1) := by decide +kernel
theorem dX11_doneAfter_1 : decode cX11_doneAfter 1 = .ok (.aload_n 0, 1) := by decide +kernel
theorem dX11_doneAfter_2 : decode cX11_doneAfter 2 = .ok (.getfield 16, 3) := by decide +kernel
theorem dX11_doneAfter_5 : decode cX11_doneAfter 5 = .ok (.iload_n 1, 1) := by decide +kernel
theorem dX11_doneAfter_6 : decode cX11_doneAfter 6 = .ok (.invokestatic 146, 3) := by decide +kernel
theorem dX11_doneAfter_9 : decode cX11_doneAfter 9 = .ok (.ifCond .eq 7, 3) := by decide +kernel
theorem dX11_doneAfter_12 : decode cX11_doneAfter 12 = .ok (.iconst 0, 1) := by decide +kernel
theorem dX11_doneAfter_13 : decode cX11_doneAfter 13 = .ok (.goto 4, 3) := by decide +kernel
theorem dX11_doneAfter_16 : decode cX11_doneAfter 16 = .ok (.iconst 1, 1) := by decide +kernel
theorem dX11_doneAfter_17 : decode cX11_doneAfter 17 = .ok (.invokevirtual 111, 3) := by decide +kernel
theorem dX11_doneAfter_20 : decode cX11_doneAfter 20 = .ok (.ifCond .eq 5, 3) := by decide +kernel
theorem dX11_doneAfter_23 : decode cX11_doneAfter 23 = .ok (.iconst 0, 1) := by decide +kernel
theorem dX11_doneAfter_24 : decode cX11_doneAfter 24 = .ok (.ireturn, 1) := by decide +kernel
theorem dX11_doneAfter_25 : decode cX11_doneAfter 25 = .ok (.aload_n 0, 1) := by decide +kernel
theorem dX11_doneAfter_26 : decode cX11_doneAfter 26 = .ok (.getfield 16, 3) := by decide +kernel
theorem dX11_doneAfter_29 : decode cX11_doneAfter 29 = .ok (.iconst 0, 1) := by decide +kernel
theorem dX11_doneAfter_30 : decode cX11_doneAfter 30 = .ok (.aload_n 0, 1) := by decide +kernel
theorem dX11_doneAfter_31 : decode cX11_doneAfter 31 = .ok (.getfield 19, 3) := by decide +kernel
theorem dX11_doneAfter_34 : decode cX11_doneAfter 34 = .ok (.iconst 0, 1) := by decide +kernel
theorem dX11_doneAfter_35 : decode cX11_doneAfter 35 = .ok (.invokestatic 137, 3) := by decide +kernel
theorem dX11_doneAfter_38 : decode cX11_doneAfter 38 = .ok (.aload_n 0, 1) := by decide +kernel
theorem dX11_doneAfter_39 : decode cX11_doneAfter 39 = .ok (.iload_n 1, 1) := by decide +kernel
theorem dX11_doneAfter_40 : decode cX11_doneAfter 40 = .ok (.invokevirtual 192, 3) := by decide +kernel
theorem dX11_doneAfter_43 : decode cX11_doneAfter 43 = .ok (.ireturn, 1) := by decide +kernel
theorem dX11_bestShip_0 : decode cX11_bestShip 0 = .ok (.aload_n 0, 1) := by decide +kernel
theorem dX11_bestShip_1 : decode cX11_bestShip 1 = .ok (.iconst 0, 1) := by decide +kernel
theorem dX11_bestShip_2 : decode cX11_bestShip 2 = .ok (.putfield 32, 3) := by decide +kernel
theorem dX11_bestShip_5 : decode cX11_bestShip 5 = .ok (.bipush (-9), 2) := by decide +kernel
theorem dX11_bestShip_7 : decode cX11_bestShip 7 = .ok (.istore_n 1, 1) := by decide +kernel
theorem dX11_bestShip_8 : decode cX11_bestShip 8 = .ok (.iconst 0, 1) := by decide +kernel
theorem dX11_bestShip_9 : decode cX11_bestShip 9 = .ok (.istore_n 2, 1) := by decide +kernel
theorem dX11_bestShip_10 : decode cX11_bestShip 10 = .ok (.iconst 0, 1) := by decide +kernel
theorem dX11_bestShip_11 : decode cX11_bestShip 11 = .ok (.istore_n 3, 1) := by decide +kernel
theorem dX11_bestShip_12 : decode cX11_bestShip 12 = .ok (.iconst 0, 1) := by decide +kernel
theorem dX11_bestShip_13 : decode cX11_bestShip 13 = .ok (.istore 4, 2) := by decide +kernel
theorem dX11_bestShip_15 : decode cX11_bestShip 15 = .ok (.iload 4, 2) := by decide +kernel
theorem dX11_bestShip_17 : decode cX11_bestShip 17 = .ok (.aload_n 0, 1) := by decide +kernel
theorem dX11_bestShip_18 : decode cX11_bestShip 18 = .ok (.getfield 16, 3) := by decide +kernel
theorem dX11_bestShip_21 : decode cX11_bestShip 21 = .ok (.iconst 5, 1) := by decide +kernel
theorem dX11_bestShip_22 : decode cX11_bestShip 22 = .ok (.iaload, 1) := by decide +kernel
theorem dX11_bestShip_23 : decode cX11_bestShip 23 = .ok (.if_icmp .ge 131, 3) := by decide +kernel
theorem dX11_bestShip_26 : decode cX11_bestShip 26 = .ok (.aload_n 0, 1) := by decide +kernel
theorem dX11_bestShip_27 : decode cX11_bestShip 27 = .ok (.getfield 16, 3) := by decide +kernel
theorem dX11_bestShip_30 : decode cX11_bestShip 30 = .ok (.iload 4, 2) := by decide +kernel
theorem dX11_bestShip_32 : decode cX11_bestShip 32 = .ok (.invokestatic 168, 3) := by decide +kernel
theorem dX11_bestShip_35 : decode cX11_bestShip 35 = .ok (.ifCond .eq 113, 3) := by decide +kernel
theorem dX11_bestShip_38 : decode cX11_bestShip 38 = .ok (.aload_n 0, 1) := by decide +kernel
theorem dX11_bestShip_39 : decode cX11_bestShip 39 = .ok (.getfield 16, 3) := by decide +kernel
theorem dX11_bestShip_42 : decode cX11_bestShip 42 = .ok (.iconst 0, 1) := by decide +kernel
theorem dX11_bestShip_43 : decode cX11_bestShip 43 = .ok (.aload_n 0, 1) := by decide +kernel
theorem dX11_bestShip_44 : decode cX11_bestShip 44 = .ok (.getfield 19, 3) := by decide +kernel
theorem dX11_bestShip_47 : decode cX11_bestShip 47 = .ok (.iconst 0, 1) := by decide +kernel
theorem dX11_bestShip_48 : decode cX11_bestShip 48 = .ok (.invokestatic 137, 3) := by decide +kernel
theorem dX11_bestShip_51 : decode cX11_bestShip 51 = .ok (.aload_n 0, 1) := by decide +kernel
theorem dX11_bestShip_52 : decode cX11_bestShip 52 = .ok (.getfield 19, 3) := by decide +kernel
theorem dX11_bestShip_55 : decode cX11_bestShip 55 = .ok (.iload 4, 2) := by decide +kernel
theorem dX11_bestShip_57 : decode cX11_bestShip 57 = .ok (.invokestatic 195, 3) := by decide +kernel
theorem dX11_bestShip_60 : decode cX11_bestShip 60 = .ok (.aload_n 0, 1) := by decide +kernel
theorem dX11_bestShip_61 : decode cX11_bestShip 61 = .ok (.getfield 19, 3) := by decide +kernel
theorem dX11_bestShip_64 : decode cX11_bestShip 64 = .ok (.bipush 60, 2) := by decide +kernel
theorem dX11_bestShip_66 : decode cX11_bestShip 66 = .ok (.invokestatic 189, 3) := by decide +kernel
theorem dX11_bestShip_69 : decode cX11_bestShip 69 = .ok (.istore 5, 2) := by decide +kernel
theorem dX11_bestShip_71 : decode cX11_bestShip 71 = .ok (.iload_n 1, 1) := by decide +kernel
theorem dX11_bestShip_72 : decode cX11_bestShip 72 = .ok (.bipush (-9), 2) := by decide +kernel
theorem dX11_bestShip_74 : decode cX11_bestShip 74 = .ok (.if_icmp .eq 26, 3) := by decide +kernel
theorem dX11_bestShip_77 : decode cX11_bestShip 77 = .ok (.iload 5, 2) := by decide +kernel
theorem dX11_bestShip_79 : decode cX11_bestShip 79 = .ok (.iload_n 2, 1) := by decide +kernel
theorem dX11_bestShip_80 : decode cX11_bestShip 80 = .ok (.if_icmp .gt 20, 3) := by decide +kernel
theorem dX11_bestShip_83 : decode cX11_bestShip 83 = .ok (.iload 5, 2) := by decide +kernel
theorem dX11_bestShip_85 : decode cX11_bestShip 85 = .ok (.iload_n 2, 1) := by decide +kernel
theorem dX11_bestShip_86 : decode cX11_bestShip 86 = .ok (.if_icmp .ne 18, 3) := by decide +kernel
theorem dX11_bestShip_89 : decode cX11_bestShip 89 = .ok (.aload_n 0, 1) := by decide +kernel
theorem dX11_bestShip_90 : decode cX11_bestShip 90 = .ok (.getfield 19, 3) := by decide +kernel
theorem dX11_bestShip_93 : decode cX11_bestShip 93 = .ok (.bipush 19, 2) := by decide +kernel
theorem dX11_bestShip_95 : decode cX11_bestShip 95 = .ok (.iaload, 1) := by decide +kernel
theorem dX11_bestShip_96 : decode cX11_bestShip 96 = .ok (.iload_n 3, 1) := by decide +kernel
theorem dX11_bestShip_97 : decode cX11_bestShip 97 = .ok (.if_icmp .ge 7, 3) := by decide +kernel
theorem dX11_bestShip_100 : decode cX11_bestShip 100 = .ok (.iconst 1, 1) := by decide +kernel
theorem dX11_bestShip_101 : decode cX11_bestShip 101 = .ok (.goto 4, 3) := by decide +kernel
theorem dX11_bestShip_104 : decode cX11_bestShip 104 = .ok (.iconst 0, 1) := by decide +kernel
