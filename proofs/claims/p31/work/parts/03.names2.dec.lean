theorem dX7_init_0 : decode cX7_init 0 = .ok (.aload_n 0, 1) := by decide +kernel
theorem dX7_init_1 : decode cX7_init 1 = .ok (.invokespecial 3, 3) := by decide +kernel
theorem dX7_init_4 : decode cX7_init 4 = .ok (.aload_n 0, 1) := by decide +kernel
theorem dX7_init_5 : decode cX7_init 5 = .ok (.sipush 160, 3) := by decide +kernel
theorem dX7_init_8 : decode cX7_init 8 = .ok (.newarray .char, 2) := by decide +kernel
theorem dX7_init_10 : decode cX7_init 10 = .ok (.putfield 11, 3) := by decide +kernel
theorem dX7_init_13 : decode cX7_init 13 = .ok (.return_, 1) := by decide +kernel
theorem dX7_hasRoom_0 : decode cX7_hasRoom 0 = .ok (.aload_n 0, 1) := by decide +kernel
theorem dX7_hasRoom_1 : decode cX7_hasRoom 1 = .ok (.getfield 15, 3) := by decide +kernel
theorem dX7_hasRoom_4 : decode cX7_hasRoom 4 = .ok (.ifCond .lt 19, 3) := by decide +kernel
theorem dX7_hasRoom_7 : decode cX7_hasRoom 7 = .ok (.aload_n 0, 1) := by decide +kernel
theorem dX7_hasRoom_8 : decode cX7_hasRoom 8 = .ok (.getfield 15, 3) := by decide +kernel
theorem dX7_hasRoom_11 : decode cX7_hasRoom 11 = .ok (.aload_n 0, 1) := by decide +kernel
theorem dX7_hasRoom_12 : decode cX7_hasRoom 12 = .ok (.getfield 11, 3) := by decide +kernel
theorem dX7_hasRoom_15 : decode cX7_hasRoom 15 = .ok (.arraylength, 1) := by decide +kernel
theorem dX7_hasRoom_16 : decode cX7_hasRoom 16 = .ok (.if_icmp .ge 7, 3) := by decide +kernel
theorem dX7_hasRoom_19 : decode cX7_hasRoom 19 = .ok (.iconst 1, 1) := by decide +kernel
theorem dX7_hasRoom_20 : decode cX7_hasRoom 20 = .ok (.goto 4, 3) := by decide +kernel
theorem dX7_hasRoom_23 : decode cX7_hasRoom 23 = .ok (.iconst 0, 1) := by decide +kernel
theorem dX7_hasRoom_24 : decode cX7_hasRoom 24 = .ok (.ireturn, 1) := by decide +kernel
theorem dX7_add_0 : decode cX7_add 0 = .ok (.aload_n 0, 1) := by decide +kernel
theorem dX7_add_1 : decode cX7_add 1 = .ok (.invokevirtual 19, 3) := by decide +kernel
theorem dX7_add_4 : decode cX7_add 4 = .ok (.ifCond .eq 23, 3) := by decide +kernel
theorem dX7_add_7 : decode cX7_add 7 = .ok (.aload_n 0, 1) := by decide +kernel
theorem dX7_add_8 : decode cX7_add 8 = .ok (.getfield 11, 3) := by decide +kernel
theorem dX7_add_11 : decode cX7_add 11 = .ok (.aload_n 0, 1) := by decide +kernel
theorem dX7_add_12 : decode cX7_add 12 = .ok (.getfield 15, 3) := by decide +kernel
theorem dX7_add_15 : decode cX7_add 15 = .ok (.iload_n 1, 1) := by decide +kernel
theorem dX7_add_16 : decode cX7_add 16 = .ok (.castore, 1) := by decide +kernel
theorem dX7_add_17 : decode cX7_add 17 = .ok (.aload_n 0, 1) := by decide +kernel
theorem dX7_add_18 : decode cX7_add 18 = .ok (.dup, 1) := by decide +kernel
theorem dX7_add_19 : decode cX7_add 19 = .ok (.getfield 15, 3) := by decide +kernel
theorem dX7_add_22 : decode cX7_add 22 = .ok (.iconst 1, 1) := by decide +kernel
theorem dX7_add_23 : decode cX7_add 23 = .ok (.iadd, 1) := by decide +kernel
theorem dX7_add_24 : decode cX7_add 24 = .ok (.putfield 15, 3) := by decide +kernel
theorem dX7_add_27 : decode cX7_add 27 = .ok (.aload_n 0, 1) := by decide +kernel
theorem dX7_add_28 : decode cX7_add 28 = .ok (.getfield 15, 3) := by decide +kernel
theorem dX7_add_31 : decode cX7_add 31 = .ok (.ireturn, 1) := by decide +kernel
theorem dX7_clear_0 : decode cX7_clear 0 = .ok (.aload_n 0, 1) := by decide +kernel
theorem dX7_clear_1 : decode cX7_clear 1 = .ok (.getfield 15, 3) := by decide +kernel
theorem dX7_clear_4 : decode cX7_clear 4 = .ok (.istore_n 1, 1) := by decide +kernel
theorem dX7_clear_5 : decode cX7_clear 5 = .ok (.aload_n 0, 1) := by decide +kernel
theorem dX7_clear_6 : decode cX7_clear 6 = .ok (.iconst 0, 1) := by decide +kernel
theorem dX7_clear_7 : decode cX7_clear 7 = .ok (.putfield 15, 3) := by decide +kernel
theorem dX7_clear_10 : decode cX7_clear 10 = .ok (.iload_n 1, 1) := by decide +kernel
theorem dX7_clear_11 : decode cX7_clear 11 = .ok (.ireturn, 1) := by decide +kernel
theorem dX7_readInto_0 : decode cX7_readInto 0 = .ok (.aload_n 0, 1) := by decide +kernel
theorem dX7_readInto_1 : decode cX7_readInto 1 = .ok (.iconst 0, 1) := by decide +kernel
theorem dX7_readInto_2 : decode cX7_readInto 2 = .ok (.putfield 23, 3) := by decide +kernel
theorem dX7_readInto_5 : decode cX7_readInto 5 = .ok (.aload_n 0, 1) := by decide +kernel
theorem dX7_readInto_6 : decode cX7_readInto 6 = .ok (.iconst 1, 1) := by decide +kernel
theorem dX7_readInto_7 : decode cX7_readInto 7 = .ok (.putfield 26, 3) := by decide +kernel
theorem dX7_readInto_10 : decode cX7_readInto 10 = .ok (.aload_n 0, 1) := by decide +kernel
theorem dX7_readInto_11 : decode cX7_readInto 11 = .ok (.aload_n 1, 1) := by decide +kernel
theorem dX7_readInto_12 : decode cX7_readInto 12 = .ok (.invokevirtual 30, 3) := by decide +kernel
theorem dX7_readInto_15 : decode cX7_readInto 15 = .ok (.iconst 0, 1) := by decide +kernel
theorem dX7_readInto_16 : decode cX7_readInto 16 = .ok (.istore_n 2, 1) := by decide +kernel
theorem dX7_readInto_17 : decode cX7_readInto 17 = .ok (.aload_n 0, 1) := by decide +kernel
theorem dX7_readInto_18 : decode cX7_readInto 18 = .ok (.getfield 26, 3) := by decide +kernel
theorem dX7_readInto_21 : decode cX7_readInto 21 = .ok (.ifCond .eq 33, 3) := by decide +kernel
theorem dX7_readInto_24 : decode cX7_readInto 24 = .ok (.iload_n 2, 1) := by decide +kernel
theorem dX7_readInto_25 : decode cX7_readInto 25 = .ok (.bipush 9, 2) := by decide +kernel
theorem dX7_readInto_27 : decode cX7_readInto 27 = .ok (.if_icmp .ge 27, 3) := by decide +kernel
theorem dX7_readInto_30 : decode cX7_readInto 30 = .ok (.iload_n 2, 1) := by decide +kernel
theorem dX7_readInto_31 : decode cX7_readInto 31 = .ok (.ifCond .eq 12, 3) := by decide +kernel
theorem dX7_readInto_34 : decode cX7_readInto 34 = .ok (.aload_n 0, 1) := by decide +kernel
theorem dX7_readInto_35 : decode cX7_readInto 35 = .ok (.bipush 122, 2) := by decide +kernel
theorem dX7_readInto_37 : decode cX7_readInto 37 = .ok (.invokevirtual 36, 3) := by decide +kernel
theorem dX7_readInto_40 : decode cX7_readInto 40 = .ok (.ifCond .eq 14, 3) := by decide +kernel
theorem dX7_readInto_43 : decode cX7_readInto 43 = .ok (.aload_n 0, 1) := by decide +kernel
theorem dX7_readInto_44 : decode cX7_readInto 44 = .ok (.aload_n 1, 1) := by decide +kernel
theorem dX7_readInto_45 : decode cX7_readInto 45 = .ok (.invokevirtual 40, 3) := by decide +kernel
theorem dX7_readInto_48 : decode cX7_readInto 48 = .ok (.iinc 2 1, 3) := by decide +kernel
theorem dX7_readInto_51 : decode cX7_readInto 51 = .ok (.goto (-34), 3) := by decide +kernel
theorem dX7_readInto_54 : decode cX7_readInto 54 = .ok (.iconst 0, 1) := by decide +kernel
theorem dX7_readInto_55 : decode cX7_readInto 55 = .ok (.istore_n 2, 1) := by decide +kernel
theorem dX7_readInto_56 : decode cX7_readInto 56 = .ok (.aload_n 0, 1) := by decide +kernel
theorem dX7_readInto_57 : decode cX7_readInto 57 = .ok (.getfield 26, 3) := by decide +kernel
theorem dX7_readInto_60 : decode cX7_readInto 60 = .ok (.ifCond .eq 32, 3) := by decide +kernel
theorem dX7_readInto_63 : decode cX7_readInto 63 = .ok (.iload_n 2, 1) := by decide +kernel
theorem dX7_readInto_64 : decode cX7_readInto 64 = .ok (.iconst 4, 1) := by decide +kernel
theorem dX7_readInto_65 : decode cX7_readInto 65 = .ok (.if_icmp .ge 27, 3) := by decide +kernel
theorem dX7_readInto_68 : decode cX7_readInto 68 = .ok (.iload_n 2, 1) := by decide +kernel
theorem dX7_readInto_69 : decode cX7_readInto 69 = .ok (.ifCond .eq 12, 3) := by decide +kernel
theorem dX7_readInto_72 : decode cX7_readInto 72 = .ok (.aload_n 0, 1) := by decide +kernel
theorem dX7_readInto_73 : decode cX7_readInto 73 = .ok (.bipush 115, 2) := by decide +kernel
theorem dX7_readInto_75 : decode cX7_readInto 75 = .ok (.invokevirtual 36, 3) := by decide +kernel
theorem dX7_readInto_78 : decode cX7_readInto 78 = .ok (.ifCond .eq 14, 3) := by decide +kernel
theorem dX7_readInto_81 : decode cX7_readInto 81 = .ok (.aload_n 0, 1) := by decide +kernel
theorem dX7_readInto_82 : decode cX7_readInto 82 = .ok (.aload_n 1, 1) := by decide +kernel
theorem dX7_readInto_83 : decode cX7_readInto 83 = .ok (.invokevirtual 43, 3) := by decide +kernel
theorem dX7_readInto_86 : decode cX7_readInto 86 = .ok (.iinc 2 1, 3) := by decide +kernel
theorem dX7_readInto_89 : decode cX7_readInto 89 = .ok (.goto (-33), 3) := by decide +kernel
theorem dX7_readInto_92 : decode cX7_readInto 92 = .ok (.aload_n 0, 1) := by decide +kernel
theorem dX7_readInto_93 : decode cX7_readInto 93 = .ok (.aload_n 1, 1) := by decide +kernel
theorem dX7_readInto_94 : decode cX7_readInto 94 = .ok (.invokevirtual 46, 3) := by decide +kernel
theorem dX7_readInto_97 : decode cX7_readInto 97 = .ok (.aload_n 0, 1) := by decide +kernel
theorem dX7_readInto_98 : decode cX7_readInto 98 = .ok (.getfield 26, 3) := by decide +kernel
theorem dX7_readInto_101 : decode cX7_readInto 101 = .ok (.ifCond .eq 8, 3) := by decide +kernel
theorem dX7_readInto_104 : decode cX7_readInto 104 = .ok (.bipush (-9), 2) := by decide +kernel
theorem dX7_readInto_106 : decode cX7_readInto 106 = .ok (.goto 7, 3) := by decide +kernel
theorem dX7_readInto_109 : decode cX7_readInto 109 = .ok (.aload_n 0, 1) := by decide +kernel
theorem dX7_readInto_110 : decode cX7_readInto 110 = .ok (.getfield 23, 3) := by decide +kernel
theorem dX7_readInto_113 : decode cX7_readInto 113 = .ok (.ireturn, 1) := by decide +kernel
theorem dX7_readHead_0 : decode cX7_readHead 0 = .ok (.aload_n 0, 1) := by decide +kernel
theorem dX7_readHead_1 : decode cX7_readHead 1 = .ok (.bipush 67, 2) := by decide +kernel
theorem dX7_readHead_3 : decode cX7_readHead 3 = .ok (.invokevirtual 49, 3) := by decide +kernel
theorem dX7_readHead_6 : decode cX7_readHead 6 = .ok (.aload_n 0, 1) := by decide +kernel
theorem dX7_readHead_7 : decode cX7_readHead 7 = .ok (.iconst 1, 1) := by decide +kernel
theorem dX7_readHead_8 : decode cX7_readHead 8 = .ok (.iconst 1, 1) := by decide +kernel
theorem dX7_readHead_9 : decode cX7_readHead 9 = .ok (.iconst 3, 1) := by decide +kernel
theorem dX7_readHead_10 : decode cX7_readHead 10 = .ok (.invokevirtual 55, 3) := by decide +kernel
theorem dX7_readHead_13 : decode cX7_readHead 13 = .ok (.istore_n 2, 1) := by decide +kernel
theorem dX7_readHead_14 : decode cX7_readHead 14 = .ok (.aload_n 0, 1) := by decide +kernel
theorem dX7_readHead_15 : decode cX7_readHead 15 = .ok (.iconst 1, 1) := by decide +kernel
theorem dX7_readHead_16 : decode cX7_readHead 16 = .ok (.iconst 1, 1) := by decide +kernel
theorem dX7_readHead_17 : decode cX7_readHead 17 = .ok (.iconst 3, 1) := by decide +kernel
theorem dX7_readHead_18 : decode cX7_readHead 18 = .ok (.invokevirtual 55, 3) := by decide +kernel
theorem dX7_readHead_21 : decode cX7_readHead 21 = .ok (.istore_n 3, 1) := by decide +kernel
theorem dX7_readHead_22 : decode cX7_readHead 22 = .ok (.aload_n 1, 1) := by decide +kernel
theorem dX7_readHead_23 : decode cX7_readHead 23 = .ok (.iload_n 2, 1) := by decide +kernel
theorem dX7_readHead_24 : decode cX7_readHead 24 = .ok (.iload_n 3, 1) := by decide +kernel
theorem dX7_readHead_25 : decode cX7_readHead 25 = .ok (.aload_n 0, 1) := by decide +kernel
theorem dX7_readHead_26 : decode cX7_readHead 26 = .ok (.iconst 4, 1) := by decide +kernel
theorem dX7_readHead_27 : decode cX7_readHead 27 = .ok (.iconst 0, 1) := by decide +kernel
theorem dX7_readHead_28 : decode cX7_readHead 28 = .ok (.sipush 9999, 3) := by decide +kernel
theorem dX7_readHead_31 : decode cX7_readHead 31 = .ok (.invokevirtual 55, 3) := by decide +kernel
theorem dX7_readHead_34 : decode cX7_readHead 34 = .ok (.invokevirtual 59, 3) := by decide +kernel
theorem dX7_readHead_37 : decode cX7_readHead 37 = .ok (.return_, 1) := by decide +kernel
theorem dX7_readZone_0 : decode cX7_readZone 0 = .ok (.aload_n 0, 1) := by decide +kernel
theorem dX7_readZone_1 : decode cX7_readZone 1 = .ok (.bipush 122, 2) := by decide +kernel
theorem dX7_readZone_3 : decode cX7_readZone 3 = .ok (.invokevirtual 49, 3) := by decide +kernel
theorem dX7_readZone_6 : decode cX7_readZone 6 = .ok (.aload_n 0, 1) := by decide +kernel
theorem dX7_readZone_7 : decode cX7_readZone 7 = .ok (.iconst 2, 1) := by decide +kernel
theorem dX7_readZone_8 : decode cX7_readZone 8 = .ok (.iconst 1, 1) := by decide +kernel
theorem dX7_readZone_9 : decode cX7_readZone 9 = .ok (.bipush 99, 2) := by decide +kernel
theorem dX7_readZone_11 : decode cX7_readZone 11 = .ok (.invokevirtual 55, 3) := by decide +kernel
theorem dX7_readZone_14 : decode cX7_readZone 14 = .ok (.istore_n 2, 1) := by decide +kernel
theorem dX7_readZone_15 : decode cX7_readZone 15 = .ok (.aload_n 0, 1) := by decide +kernel
theorem dX7_readZone_16 : decode cX7_readZone 16 = .ok (.iconst 2, 1) := by decide +kernel
theorem dX7_readZone_17 : decode cX7_readZone 17 = .ok (.iconst 0, 1) := by decide +kernel
theorem dX7_readZone_18 : decode cX7_readZone 18 = .ok (.bipush 99, 2) := by decide +kernel
theorem dX7_readZone_20 : decode cX7_readZone 20 = .ok (.invokevirtual 55, 3) := by decide +kernel
theorem dX7_readZone_23 : decode cX7_readZone 23 = .ok (.istore_n 3, 1) := by decide +kernel
theorem dX7_readZone_24 : decode cX7_readZone 24 = .ok (.aload_n 0, 1) := by decide +kernel
theorem dX7_readZone_25 : decode cX7_readZone 25 = .ok (.iconst 2, 1) := by decide +kernel
theorem dX7_readZone_26 : decode cX7_readZone 26 = .ok (.iload_n 3, 1) := by decide +kernel
theorem dX7_readZone_27 : decode cX7_readZone 27 = .ok (.bipush 99, 2) := by decide +kernel
theorem dX7_readZone_29 : decode cX7_readZone 29 = .ok (.invokevirtual 55, 3) := by decide +kernel
theorem dX7_readZone_32 : decode cX7_readZone 32 = .ok (.istore 4, 2) := by decide +kernel
theorem dX7_readZone_34 : decode cX7_readZone 34 = .ok (.aload_n 1, 1) := by decide +kernel
theorem dX7_readZone_35 : decode cX7_readZone 35 = .ok (.iload_n 2, 1) := by decide +kernel
theorem dX7_readZone_36 : decode cX7_readZone 36 = .ok (.iload_n 3, 1) := by decide +kernel
theorem dX7_readZone_37 : decode cX7_readZone 37 = .ok (.iload 4, 2) := by decide +kernel
theorem dX7_readZone_39 : decode cX7_readZone 39 = .ok (.aload_n 0, 1) := by decide +kernel
theorem dX7_readZone_40 : decode cX7_readZone 40 = .ok (.iconst 1, 1) := by decide +kernel
theorem dX7_readZone_41 : decode cX7_readZone 41 = .ok (.iconst 0, 1) := by decide +kernel
theorem dX7_readZone_42 : decode cX7_readZone 42 = .ok (.bipush 9, 2) := by decide +kernel
theorem dX7_readZone_44 : decode cX7_readZone 44 = .ok (.invokevirtual 55, 3) := by decide +kernel
theorem dX7_readZone_47 : decode cX7_readZone 47 = .ok (.invokevirtual 63, 3) := by decide +kernel
theorem dX7_readZone_50 : decode cX7_readZone 50 = .ok (.return_, 1) := by decide +kernel
theorem dX7_readShip_0 : decode cX7_readShip 0 = .ok (.aload_n 0, 1) := by decide +kernel
theorem dX7_readShip_1 : decode cX7_readShip 1 = .ok (.bipush 115, 2) := by decide +kernel
theorem dX7_readShip_3 : decode cX7_readShip 3 = .ok (.invokevirtual 49, 3) := by decide +kernel
theorem dX7_readShip_6 : decode cX7_readShip 6 = .ok (.aload_n 0, 1) := by decide +kernel
theorem dX7_readShip_7 : decode cX7_readShip 7 = .ok (.iconst 3, 1) := by decide +kernel
theorem dX7_readShip_8 : decode cX7_readShip 8 = .ok (.bipush 10, 2) := by decide +kernel
theorem dX7_readShip_10 : decode cX7_readShip 10 = .ok (.sipush 999, 3) := by decide +kernel
theorem dX7_readShip_13 : decode cX7_readShip 13 = .ok (.invokevirtual 55, 3) := by decide +kernel
theorem dX7_readShip_16 : decode cX7_readShip 16 = .ok (.istore_n 2, 1) := by decide +kernel
theorem dX7_readShip_17 : decode cX7_readShip 17 = .ok (.aload_n 0, 1) := by decide +kernel
theorem dX7_readShip_18 : decode cX7_readShip 18 = .ok (.iconst 2, 1) := by decide +kernel
theorem dX7_readShip_19 : decode cX7_readShip 19 = .ok (.iconst 1, 1) := by decide +kernel
theorem dX7_readShip_20 : decode cX7_readShip 20 = .ok (.bipush 20, 2) := by decide +kernel
theorem dX7_readShip_22 : decode cX7_readShip 22 = .ok (.invokevirtual 55, 3) := by decide +kernel
theorem dX7_readShip_25 : decode cX7_readShip 25 = .ok (.istore_n 3, 1) := by decide +kernel
theorem dX7_readShip_26 : decode cX7_readShip 26 = .ok (.aload_n 0, 1) := by decide +kernel
theorem dX7_readShip_27 : decode cX7_readShip 27 = .ok (.iconst 1, 1) := by decide +kernel
theorem dX7_readShip_28 : decode cX7_readShip 28 = .ok (.iconst 1, 1) := by decide +kernel
theorem dX7_readShip_29 : decode cX7_readShip 29 = .ok (.bipush 9, 2) := by decide +kernel
theorem dX7_readShip_31 : decode cX7_readShip 31 = .ok (.invokevirtual 55, 3) := by decide +kernel
theorem dX7_readShip_34 : decode cX7_readShip 34 = .ok (.istore 4, 2) := by decide +kernel
theorem dX7_readShip_36 : decode cX7_readShip 36 = .ok (.aload_n 1, 1) := by decide +kernel
theorem dX7_readShip_37 : decode cX7_readShip 37 = .ok (.iload_n 2, 1) := by decide +kernel
theorem dX7_readShip_38 : decode cX7_readShip 38 = .ok (.iload_n 3, 1) := by decide +kernel
theorem dX7_readShip_39 : decode cX7_readShip 39 = .ok (.iload 4, 2) := by decide +kernel
theorem dX7_readShip_41 : decode cX7_readShip 41 = .ok (.aload_n 0, 1) := by decide +kernel
theorem dX7_readShip_42 : decode cX7_readShip 42 = .ok (.iconst 2, 1) := by decide +kernel
theorem dX7_readShip_43 : decode cX7_readShip 43 = .ok (.iconst 1, 1) := by decide +kernel
theorem dX7_readShip_44 : decode cX7_readShip 44 = .ok (.bipush 99, 2) := by decide +kernel
theorem dX7_readShip_46 : decode cX7_readShip 46 = .ok (.invokevirtual 55, 3) := by decide +kernel
theorem dX7_readShip_49 : decode cX7_readShip 49 = .ok (.invokevirtual 67, 3) := by decide +kernel
theorem dX7_readShip_52 : decode cX7_readShip 52 = .ok (.return_, 1) := by decide +kernel
theorem dX7_readWeather_0 : decode cX7_readWeather 0 = .ok (.aload_n 0, 1) := by decide +kernel
theorem dX7_readWeather_1 : decode cX7_readWeather 1 = .ok (.bipush 119, 2) := by decide +kernel
theorem dX7_readWeather_3 : decode cX7_readWeather 3 = .ok (.invokevirtual 49, 3) := by decide +kernel
theorem dX7_readWeather_6 : decode cX7_readWeather 6 = .ok (.iconst 0, 1) := by decide +kernel
theorem dX7_readWeather_7 : decode cX7_readWeather 7 = .ok (.istore_n 2, 1) := by decide +kernel
theorem dX7_readWeather_8 : decode cX7_readWeather 8 = .ok (.aload_n 0, 1) := by decide +kernel
theorem dX7_readWeather_9 : decode cX7_readWeather 9 = .ok (.getfield 26, 3) := by decide +kernel
theorem dX7_readWeather_12 : decode cX7_readWeather 12 = .ok (.ifCond .eq 45, 3) := by decide +kernel
theorem dX7_readWeather_15 : decode cX7_readWeather 15 = .ok (.iload_n 2, 1) := by decide +kernel
theorem dX7_readWeather_16 : decode cX7_readWeather 16 = .ok (.bipush 30, 2) := by decide +kernel
theorem dX7_readWeather_18 : decode cX7_readWeather 18 = .ok (.if_icmp .ge 39, 3) := by decide +kernel
theorem dX7_readWeather_21 : decode cX7_readWeather 21 = .ok (.iload_n 2, 1) := by decide +kernel
theorem dX7_readWeather_22 : decode cX7_readWeather 22 = .ok (.ifCond .eq 14, 3) := by decide +kernel
theorem dX7_readWeather_25 : decode cX7_readWeather 25 = .ok (.aload_n 0, 1) := by decide +kernel
theorem dX7_readWeather_26 : decode cX7_readWeather 26 = .ok (.getfield 23, 3) := by decide +kernel
theorem dX7_readWeather_29 : decode cX7_readWeather 29 = .ok (.aload_n 0, 1) := by decide +kernel
theorem dX7_readWeather_30 : decode cX7_readWeather 30 = .ok (.getfield 15, 3) := by decide +kernel
theorem dX7_readWeather_33 : decode cX7_readWeather 33 = .ok (.if_icmp .ge 24, 3) := by decide +kernel
theorem dX7_readWeather_36 : decode cX7_readWeather 36 = .ok (.aload_n 1, 1) := by decide +kernel
theorem dX7_readWeather_37 : decode cX7_readWeather 37 = .ok (.getfield 72, 3) := by decide +kernel
theorem dX7_readWeather_40 : decode cX7_readWeather 40 = .ok (.aload_n 0, 1) := by decide +kernel
theorem dX7_readWeather_41 : decode cX7_readWeather 41 = .ok (.iconst 1, 1) := by decide +kernel
theorem dX7_readWeather_42 : decode cX7_readWeather 42 = .ok (.iconst 0, 1) := by decide +kernel
theorem dX7_readWeather_43 : decode cX7_readWeather 43 = .ok (.bipush 9, 2) := by decide +kernel
theorem dX7_readWeather_45 : decode cX7_readWeather 45 = .ok (.invokevirtual 55, 3) := by decide +kernel
theorem dX7_readWeather_48 : decode cX7_readWeather 48 = .ok (.invokevirtual 76, 3) := by decide +kernel
theorem dX7_readWeather_51 : decode cX7_readWeather 51 = .ok (.iinc 2 1, 3) := by decide +kernel
theorem dX7_readWeather_54 : decode cX7_readWeather 54 = .ok (.goto (-46), 3) := by decide +kernel
theorem dX7_readWeather_57 : decode cX7_readWeather 57 = .ok (.aload_n 0, 1) := by decide +kernel
theorem dX7_readWeather_58 : decode cX7_readWeather 58 = .ok (.aload_n 0, 1) := by decide +kernel
theorem dX7_readWeather_59 : decode cX7_readWeather 59 = .ok (.getfield 26, 3) := by decide +kernel
theorem dX7_readWeather_62 : decode cX7_readWeather 62 = .ok (.ifCond .eq 18, 3) := by decide +kernel
theorem dX7_readWeather_65 : decode cX7_readWeather 65 = .ok (.aload_n 0, 1) := by decide +kernel
theorem dX7_readWeather_66 : decode cX7_readWeather 66 = .ok (.getfield 23, 3) := by decide +kernel
theorem dX7_readWeather_69 : decode cX7_readWeather 69 = .ok (.aload_n 0, 1) := by decide +kernel
theorem dX7_readWeather_70 : decode cX7_readWeather 70 = .ok (.getfield 15, 3) := by decide +kernel
theorem dX7_readWeather_73 : decode cX7_readWeather 73 = .ok (.if_icmp .ne 7, 3) := by decide +kernel
theorem dX7_readWeather_76 : decode cX7_readWeather 76 = .ok (.iconst 1, 1) := by decide +kernel
theorem dX7_readWeather_77 : decode cX7_readWeather 77 = .ok (.goto 4, 3) := by decide +kernel
theorem dX7_readWeather_80 : decode cX7_readWeather 80 = .ok (.iconst 0, 1) := by decide +kernel
theorem dX7_readWeather_81 : decode cX7_readWeather 81 = .ok (.putfield 26, 3) := by decide +kernel
theorem dX7_readWeather_84 : decode cX7_readWeather 84 = .ok (.return_, 1) := by decide +kernel
theorem dX7_nextIs_0 : decode cX7_nextIs 0 = .ok (.aload_n 0, 1) := by decide +kernel
theorem dX7_nextIs_1 : decode cX7_nextIs 1 = .ok (.getfield 23, 3) := by decide +kernel
theorem dX7_nextIs_4 : decode cX7_nextIs 4 = .ok (.ifCond .lt 43, 3) := by decide +kernel
theorem dX7_nextIs_7 : decode cX7_nextIs 7 = .ok (.aload_n 0, 1) := by decide +kernel
theorem dX7_nextIs_8 : decode cX7_nextIs 8 = .ok (.getfield 23, 3) := by decide +kernel
theorem dX7_nextIs_11 : decode cX7_nextIs 11 = .ok (.aload_n 0, 1) := by decide +kernel
theorem dX7_nextIs_12 : decode cX7_nextIs 12 = .ok (.getfield 15, 3) := by decide +kernel
theorem dX7_nextIs_15 : decode cX7_nextIs 15 = .ok (.if_icmp .ge 32, 3) := by decide +kernel
theorem dX7_nextIs_18 : decode cX7_nextIs 18 = .ok (.aload_n 0, 1) := by decide +kernel
theorem dX7_nextIs_19 : decode cX7_nextIs 19 = .ok (.getfield 23, 3) := by decide +kernel
theorem dX7_nextIs_22 : decode cX7_nextIs 22 = .ok (.aload_n 0, 1) := by decide +kernel
theorem dX7_nextIs_23 : decode cX7_nextIs 23 = .ok (.getfield 11, 3) := by decide +kernel
theorem dX7_nextIs_26 : decode cX7_nextIs 26 = .ok (.arraylength, 1) := by decide +kernel
theorem dX7_nextIs_27 : decode cX7_nextIs 27 = .ok (.if_icmp .ge 20, 3) := by decide +kernel
theorem dX7_nextIs_30 : decode cX7_nextIs 30 = .ok (.aload_n 0, 1) := by decide +kernel
theorem dX7_nextIs_31 : decode cX7_nextIs 31 = .ok (.getfield 11, 3) := by decide +kernel
theorem dX7_nextIs_34 : decode cX7_nextIs 34 = .ok (.aload_n 0, 1) := by decide +kernel
theorem dX7_nextIs_35 : decode cX7_nextIs 35 = .ok (.getfield 23, 3) := by decide +kernel
theorem dX7_nextIs_38 : decode cX7_nextIs 38 = .ok (.caload, 1) := by decide +kernel
theorem dX7_nextIs_39 : decode cX7_nextIs 39 = .ok (.iload_n 1, 1) := by decide +kernel
theorem dX7_nextIs_40 : decode cX7_nextIs 40 = .ok (.if_icmp .ne 7, 3) := by decide +kernel
theorem dX7_nextIs_43 : decode cX7_nextIs 43 = .ok (.iconst 1, 1) := by decide +kernel
theorem dX7_nextIs_44 : decode cX7_nextIs 44 = .ok (.goto 4, 3) := by decide +kernel
theorem dX7_nextIs_47 : decode cX7_nextIs 47 = .ok (.iconst 0, 1) := by decide +kernel
theorem dX7_nextIs_48 : decode cX7_nextIs 48 = .ok (.ireturn, 1) := by decide +kernel
theorem dX7_readLetter_0 : decode cX7_readLetter 0 = .ok (.aload_n 0, 1) := by decide +kernel
theorem dX7_readLetter_1 : decode cX7_readLetter 1 = .ok (.aload_n 0, 1) := by decide +kernel
theorem dX7_readLetter_2 : decode cX7_readLetter 2 = .ok (.getfield 26, 3) := by decide +kernel
theorem dX7_readLetter_5 : decode cX7_readLetter 5 = .ok (.ifCond .eq 15, 3) := by decide +kernel
theorem dX7_readLetter_8 : decode cX7_readLetter 8 = .ok (.aload_n 0, 1) := by decide +kernel
theorem dX7_readLetter_9 : decode cX7_readLetter 9 = .ok (.iload_n 1, 1) := by decide +kernel
theorem dX7_readLetter_10 : decode cX7_readLetter 10 = .ok (.invokevirtual 36, 3) := by decide +kernel
theorem dX7_readLetter_13 : decode cX7_readLetter 13 = .ok (.ifCond .eq 7, 3) := by decide +kernel
theorem dX7_readLetter_16 : decode cX7_readLetter 16 = .ok (.iconst 1, 1) := by decide +kernel
theorem dX7_readLetter_17 : decode cX7_readLetter 17 = .ok (.goto 4, 3) := by decide +kernel
theorem dX7_readLetter_20 : decode cX7_readLetter 20 = .ok (.iconst 0, 1) := by decide +kernel
theorem dX7_readLetter_21 : decode cX7_readLetter 21 = .ok (.putfield 26, 3) := by decide +kernel
theorem dX7_readLetter_24 : decode cX7_readLetter 24 = .ok (.aload_n 0, 1) := by decide +kernel
theorem dX7_readLetter_25 : decode cX7_readLetter 25 = .ok (.getfield 26, 3) := by decide +kernel
theorem dX7_readLetter_28 : decode cX7_readLetter 28 = .ok (.ifCond .eq 13, 3) := by decide +kernel
theorem dX7_readLetter_31 : decode cX7_readLetter 31 = .ok (.aload_n 0, 1) := by decide +kernel
theorem dX7_readLetter_32 : decode cX7_readLetter 32 = .ok (.dup, 1) := by decide +kernel
theorem dX7_readLetter_33 : decode cX7_readLetter 33 = .ok (.getfield 23, 3) := by decide +kernel
theorem dX7_readLetter_36 : decode cX7_readLetter 36 = .ok (.iconst 1, 1) := by decide +kernel
theorem dX7_readLetter_37 : decode cX7_readLetter 37 = .ok (.iadd, 1) := by decide +kernel
theorem dX7_readLetter_38 : decode cX7_readLetter 38 = .ok (.putfield 23, 3) := by decide +kernel
theorem dX7_readLetter_41 : decode cX7_readLetter 41 = .ok (.return_, 1) := by decide +kernel
theorem dX7_readNumber_0 : decode cX7_readNumber 0 = .ok (.iconst 1, 1) := by decide +kernel
theorem dX7_readNumber_1 : decode cX7_readNumber 1 = .ok (.istore 4, 2) := by decide +kernel
theorem dX7_readNumber_3 : decode cX7_readNumber 3 = .ok (.iconst 0, 1) := by decide +kernel
theorem dX7_readNumber_4 : decode cX7_readNumber 4 = .ok (.istore 5, 2) := by decide +kernel
theorem dX7_readNumber_6 : decode cX7_readNumber 6 = .ok (.iload 5, 2) := by decide +kernel
theorem dX7_readNumber_8 : decode cX7_readNumber 8 = .ok (.iload_n 1, 1) := by decide +kernel
theorem dX7_readNumber_9 : decode cX7_readNumber 9 = .ok (.if_icmp .ge 16, 3) := by decide +kernel
theorem dX7_readNumber_12 : decode cX7_readNumber 12 = .ok (.iload 4, 2) := by decide +kernel
theorem dX7_readNumber_14 : decode cX7_readNumber 14 = .ok (.bipush 10, 2) := by decide +kernel
theorem dX7_readNumber_16 : decode cX7_readNumber 16 = .ok (.imul, 1) := by decide +kernel
theorem dX7_readNumber_17 : decode cX7_readNumber 17 = .ok (.istore 4, 2) := by decide +kernel
theorem dX7_readNumber_19 : decode cX7_readNumber 19 = .ok (.iinc 5 1, 3) := by decide +kernel
theorem dX7_readNumber_22 : decode cX7_readNumber 22 = .ok (.goto (-16), 3) := by decide +kernel
theorem dX7_readNumber_25 : decode cX7_readNumber 25 = .ok (.iconst 0, 1) := by decide +kernel
theorem dX7_readNumber_26 : decode cX7_readNumber 26 = .ok (.istore 5, 2) := by decide +kernel
theorem dX7_readNumber_28 : decode cX7_readNumber 28 = .ok (.iconst 0, 1) := by decide +kernel
theorem dX7_readNumber_29 : decode cX7_readNumber 29 = .ok (.istore 6, 2) := by decide +kernel
theorem dX7_readNumber_31 : decode cX7_readNumber 31 = .ok (.iload 6, 2) := by decide +kernel
theorem dX7_readNumber_33 : decode cX7_readNumber 33 = .ok (.iload_n 1, 1) := by decide +kernel
theorem dX7_readNumber_34 : decode cX7_readNumber 34 = .ok (.if_icmp .ge 100, 3) := by decide +kernel
theorem dX7_readNumber_37 : decode cX7_readNumber 37 = .ok (.aload_n 0, 1) := by decide +kernel
theorem dX7_readNumber_38 : decode cX7_readNumber 38 = .ok (.getfield 26, 3) := by decide +kernel
theorem dX7_readNumber_41 : decode cX7_readNumber 41 = .ok (.ifCond .eq 93, 3) := by decide +kernel
theorem dX7_readNumber_44 : decode cX7_readNumber 44 = .ok (.aload_n 0, 1) := by decide +kernel
theorem dX7_readNumber_45 : decode cX7_readNumber 45 = .ok (.invokevirtual 80, 3) := by decide +kernel
theorem dX7_readNumber_48 : decode cX7_readNumber 48 = .ok (.istore 7, 2) := by decide +kernel
theorem dX7_readNumber_50 : decode cX7_readNumber 50 = .ok (.iload 4, 2) := by decide +kernel
theorem dX7_readNumber_52 : decode cX7_readNumber 52 = .ok (.bipush 10, 2) := by decide +kernel
theorem dX7_readNumber_54 : decode cX7_readNumber 54 = .ok (.idiv, 1) := by decide +kernel
theorem dX7_readNumber_55 : decode cX7_readNumber 55 = .ok (.istore 4, 2) := by decide +kernel
theorem dX7_readNumber_57 : decode cX7_readNumber 57 = .ok (.iload 5, 2) := by decide +kernel
theorem dX7_readNumber_59 : decode cX7_readNumber 59 = .ok (.bipush 10, 2) := by decide +kernel
theorem dX7_readNumber_61 : decode cX7_readNumber 61 = .ok (.imul, 1) := by decide +kernel
theorem dX7_readNumber_62 : decode cX7_readNumber 62 = .ok (.iload 7, 2) := by decide +kernel
theorem dX7_readNumber_64 : decode cX7_readNumber 64 = .ok (.iadd, 1) := by decide +kernel
theorem dX7_readNumber_65 : decode cX7_readNumber 65 = .ok (.iload 4, 2) := by decide +kernel
theorem dX7_readNumber_67 : decode cX7_readNumber 67 = .ok (.imul, 1) := by decide +kernel
theorem dX7_readNumber_68 : decode cX7_readNumber 68 = .ok (.istore 8, 2) := by decide +kernel
theorem dX7_readNumber_70 : decode cX7_readNumber 70 = .ok (.aload_n 0, 1) := by decide +kernel
theorem dX7_readNumber_71 : decode cX7_readNumber 71 = .ok (.iload 7, 2) := by decide +kernel
theorem dX7_readNumber_73 : decode cX7_readNumber 73 = .ok (.ifCond .lt 24, 3) := by decide +kernel
theorem dX7_readNumber_76 : decode cX7_readNumber 76 = .ok (.iload 8, 2) := by decide +kernel
theorem dX7_readNumber_78 : decode cX7_readNumber 78 = .ok (.iload_n 3, 1) := by decide +kernel
theorem dX7_readNumber_79 : decode cX7_readNumber 79 = .ok (.if_icmp .gt 18, 3) := by decide +kernel
theorem dX7_readNumber_82 : decode cX7_readNumber 82 = .ok (.iload 8, 2) := by decide +kernel
theorem dX7_readNumber_84 : decode cX7_readNumber 84 = .ok (.iload 4, 2) := by decide +kernel
theorem dX7_readNumber_86 : decode cX7_readNumber 86 = .ok (.iadd, 1) := by decide +kernel
theorem dX7_readNumber_87 : decode cX7_readNumber 87 = .ok (.iconst 1, 1) := by decide +kernel
theorem dX7_readNumber_88 : decode cX7_readNumber 88 = .ok (.isub, 1) := by decide +kernel
theorem dX7_readNumber_89 : decode cX7_readNumber 89 = .ok (.iload_n 2, 1) := by decide +kernel
theorem dX7_readNumber_90 : decode cX7_readNumber 90 = .ok (.if_icmp .lt 7, 3) := by decide +kernel
theorem dX7_readNumber_93 : decode cX7_readNumber 93 = .ok (.iconst 1, 1) := by decide +kernel
theorem dX7_readNumber_94 : decode cX7_readNumber 94 = .ok (.goto 4, 3) := by decide +kernel
theorem dX7_readNumber_97 : decode cX7_readNumber 97 = .ok (.iconst 0, 1) := by decide +kernel
theorem dX7_readNumber_98 : decode cX7_readNumber 98 = .ok (.putfield 26, 3) := by decide +kernel
theorem dX7_readNumber_101 : decode cX7_readNumber 101 = .ok (.aload_n 0, 1) := by decide +kernel
theorem dX7_readNumber_102 : decode cX7_readNumber 102 = .ok (.getfield 26, 3) := by decide +kernel
theorem dX7_readNumber_105 : decode cX7_readNumber 105 = .ok (.ifCond .eq 23, 3) := by decide +kernel
theorem dX7_readNumber_108 : decode cX7_readNumber 108 = .ok (.iload 5, 2) := by decide +kernel
theorem dX7_readNumber_110 : decode cX7_readNumber 110 = .ok (.bipush 10, 2) := by decide +kernel
theorem dX7_readNumber_112 : decode cX7_readNumber 112 = .ok (.imul, 1) := by decide +kernel
theorem dX7_readNumber_113 : decode cX7_readNumber 113 = .ok (.iload 7, 2) := by decide +kernel
theorem dX7_readNumber_115 : decode cX7_readNumber 115 = .ok (.iadd, 1) := by decide +kernel
theorem dX7_readNumber_116 : decode cX7_readNumber 116 = .ok (.istore 5, 2) := by decide +kernel
theorem dX7_readNumber_118 : decode cX7_readNumber 118 = .ok (.aload_n 0, 1) := by decide +kernel
theorem dX7_readNumber_119 : decode cX7_readNumber 119 = .ok (.dup, 1) := by decide +kernel
theorem dX7_readNumber_120 : decode cX7_readNumber 120 = .ok (.getfield 23, 3) := by decide +kernel
theorem dX7_readNumber_123 : decode cX7_readNumber 123 = .ok (.iconst 1, 1) := by decide +kernel
theorem dX7_readNumber_124 : decode cX7_readNumber 124 = .ok (.iadd, 1) := by decide +kernel
theorem dX7_readNumber_125 : decode cX7_readNumber 125 = .ok (.putfield 23, 3) := by decide +kernel
theorem dX7_readNumber_128 : decode cX7_readNumber 128 = .ok (.iinc 6 1, 3) := by decide +kernel
theorem dX7_readNumber_131 : decode cX7_readNumber 131 = .ok (.goto (-100), 3) := by decide +kernel
theorem dX7_readNumber_134 : decode cX7_readNumber 134 = .ok (.iload 5, 2) := by decide +kernel
theorem dX7_readNumber_136 : decode cX7_readNumber 136 = .ok (.ireturn, 1) := by decide +kernel
theorem dX7_nextDigit_0 : decode cX7_nextDigit 0 = .ok (.aload_n 0, 1) := by decide +kernel
theorem dX7_nextDigit_1 : decode cX7_nextDigit 1 = .ok (.getfield 23, 3) := by decide +kernel
theorem dX7_nextDigit_4 : decode cX7_nextDigit 4 = .ok (.ifCond .lt 26, 3) := by decide +kernel
theorem dX7_nextDigit_7 : decode cX7_nextDigit 7 = .ok (.aload_n 0, 1) := by decide +kernel
theorem dX7_nextDigit_8 : decode cX7_nextDigit 8 = .ok (.getfield 23, 3) := by decide +kernel
theorem dX7_nextDigit_11 : decode cX7_nextDigit 11 = .ok (.aload_n 0, 1) := by decide +kernel
theorem dX7_nextDigit_12 : decode cX7_nextDigit 12 = .ok (.getfield 15, 3) := by decide +kernel
theorem dX7_nextDigit_15 : decode cX7_nextDigit 15 = .ok (.if_icmp .ge 15, 3) := by decide +kernel
theorem dX7_nextDigit_18 : decode cX7_nextDigit 18 = .ok (.aload_n 0, 1) := by decide +kernel
theorem dX7_nextDigit_19 : decode cX7_nextDigit 19 = .ok (.getfield 23, 3) := by decide +kernel
theorem dX7_nextDigit_22 : decode cX7_nextDigit 22 = .ok (.aload_n 0, 1) := by decide +kernel
theorem dX7_nextDigit_23 : decode cX7_nextDigit 23 = .ok (.getfield 11, 3) := by decide +kernel
theorem dX7_nextDigit_26 : decode cX7_nextDigit 26 = .ok (.arraylength, 1) := by decide +kernel
theorem dX7_nextDigit_27 : decode cX7_nextDigit 27 = .ok (.if_icmp .lt 6, 3) := by decide +kernel
theorem dX7_nextDigit_30 : decode cX7_nextDigit 30 = .ok (.bipush (-9), 2) := by decide +kernel
theorem dX7_nextDigit_32 : decode cX7_nextDigit 32 = .ok (.ireturn, 1) := by decide +kernel
theorem dX7_nextDigit_33 : decode cX7_nextDigit 33 = .ok (.aload_n 0, 1) := by decide +kernel
theorem dX7_nextDigit_34 : decode cX7_nextDigit 34 = .ok (.getfield 11, 3) := by decide +kernel
theorem dX7_nextDigit_37 : decode cX7_nextDigit 37 = .ok (.aload_n 0, 1) := by decide +kernel
theorem dX7_nextDigit_38 : decode cX7_nextDigit 38 = .ok (.getfield 23, 3) := by decide +kernel
theorem dX7_nextDigit_41 : decode cX7_nextDigit 41 = .ok (.caload, 1) := by decide +kernel
theorem dX7_nextDigit_42 : decode cX7_nextDigit 42 = .ok (.istore_n 1, 1) := by decide +kernel
theorem dX7_nextDigit_43 : decode cX7_nextDigit 43 = .ok (.iload_n 1, 1) := by decide +kernel
theorem dX7_nextDigit_44 : decode cX7_nextDigit 44 = .ok (.bipush 48, 2) := by decide +kernel
theorem dX7_nextDigit_46 : decode cX7_nextDigit 46 = .ok (.if_icmp .lt 16, 3) := by decide +kernel
theorem dX7_nextDigit_49 : decode cX7_nextDigit 49 = .ok (.iload_n 1, 1) := by decide +kernel
theorem dX7_nextDigit_50 : decode cX7_nextDigit 50 = .ok (.bipush 57, 2) := by decide +kernel
theorem dX7_nextDigit_52 : decode cX7_nextDigit 52 = .ok (.if_icmp .gt 10, 3) := by decide +kernel
theorem dX7_nextDigit_55 : decode cX7_nextDigit 55 = .ok (.iload_n 1, 1) := by decide +kernel
theorem dX7_nextDigit_56 : decode cX7_nextDigit 56 = .ok (.bipush 48, 2) := by decide +kernel
theorem dX7_nextDigit_58 : decode cX7_nextDigit 58 = .ok (.isub, 1) := by decide +kernel
theorem dX7_nextDigit_59 : decode cX7_nextDigit 59 = .ok (.goto 5, 3) := by decide +kernel
theorem dX7_nextDigit_62 : decode cX7_nextDigit 62 = .ok (.bipush (-9), 2) := by decide +kernel
theorem dX7_nextDigit_64 : decode cX7_nextDigit 64 = .ok (.ireturn, 1) := by decide +kernel
theorem dX8_init_0 : decode cX8_init 0 = .ok (.aload_n 0, 1) := by decide +kernel
theorem dX8_init_1 : decode cX8_init 1 = .ok (.invokespecial 3, 3) := by decide +kernel
theorem dX8_init_4 : decode cX8_init 4 = .ok (.aload_n 0, 1) := by decide +kernel
theorem dX8_init_5 : decode cX8_init 5 = .ok (.bipush 30, 2) := by decide +kernel
theorem dX8_init_7 : decode cX8_init 7 = .ok (.newarray .int, 2) := by decide +kernel
theorem dX8_init_9 : decode cX8_init 9 = .ok (.putfield 11, 3) := by decide +kernel
theorem dX8_init_12 : decode cX8_init 12 = .ok (.return_, 1) := by decide +kernel
theorem dX8_copyFrom_0 : decode cX8_copyFrom 0 = .ok (.aload_n 0, 1) := by decide +kernel
theorem dX8_copyFrom_1 : decode cX8_copyFrom 1 = .ok (.aload_n 1, 1) := by decide +kernel
theorem dX8_copyFrom_2 : decode cX8_copyFrom 2 = .ok (.getfield 15, 3) := by decide +kernel
theorem dX8_copyFrom_5 : decode cX8_copyFrom 5 = .ok (.putfield 15, 3) := by decide +kernel
theorem dX8_copyFrom_8 : decode cX8_copyFrom 8 = .ok (.iconst 0, 1) := by decide +kernel
theorem dX8_copyFrom_9 : decode cX8_copyFrom 9 = .ok (.istore_n 2, 1) := by decide +kernel
theorem dX8_copyFrom_10 : decode cX8_copyFrom 10 = .ok (.iload_n 2, 1) := by decide +kernel
theorem dX8_copyFrom_11 : decode cX8_copyFrom 11 = .ok (.aload_n 0, 1) := by decide +kernel
theorem dX8_copyFrom_12 : decode cX8_copyFrom 12 = .ok (.getfield 11, 3) := by decide +kernel
theorem dX8_copyFrom_15 : decode cX8_copyFrom 15 = .ok (.arraylength, 1) := by decide +kernel
theorem dX8_copyFrom_16 : decode cX8_copyFrom 16 = .ok (.if_icmp .ge 30, 3) := by decide +kernel
theorem dX8_copyFrom_19 : decode cX8_copyFrom 19 = .ok (.iload_n 2, 1) := by decide +kernel
theorem dX8_copyFrom_20 : decode cX8_copyFrom 20 = .ok (.aload_n 1, 1) := by decide +kernel
theorem dX8_copyFrom_21 : decode cX8_copyFrom 21 = .ok (.getfield 11, 3) := by decide +kernel
theorem dX8_copyFrom_24 : decode cX8_copyFrom 24 = .ok (.arraylength, 1) := by decide +kernel
theorem dX8_copyFrom_25 : decode cX8_copyFrom 25 = .ok (.if_icmp .ge 21, 3) := by decide +kernel
theorem dX8_copyFrom_28 : decode cX8_copyFrom 28 = .ok (.aload_n 0, 1) := by decide +kernel
theorem dX8_copyFrom_29 : decode cX8_copyFrom 29 = .ok (.getfield 11, 3) := by decide +kernel
theorem dX8_copyFrom_32 : decode cX8_copyFrom 32 = .ok (.iload_n 2, 1) := by decide +kernel
theorem dX8_copyFrom_33 : decode cX8_copyFrom 33 = .ok (.aload_n 1, 1) := by decide +kernel
theorem dX8_copyFrom_34 : decode cX8_copyFrom 34 = .ok (.getfield 11, 3) := by decide +kernel
theorem dX8_copyFrom_37 : decode cX8_copyFrom 37 = .ok (.iload_n 2, 1) := by decide +kernel
theorem dX8_copyFrom_38 : decode cX8_copyFrom 38 = .ok (.iaload, 1) := by decide +kernel
theorem dX8_copyFrom_39 : decode cX8_copyFrom 39 = .ok (.iastore, 1) := by decide +kernel
theorem dX8_copyFrom_40 : decode cX8_copyFrom 40 = .ok (.iinc 2 1, 3) := by decide +kernel
theorem dX8_copyFrom_43 : decode cX8_copyFrom 43 = .ok (.goto (-33), 3) := by decide +kernel
theorem dX8_copyFrom_46 : decode cX8_copyFrom 46 = .ok (.return_, 1) := by decide +kernel
theorem dX8_add_0 : decode cX8_add 0 = .ok (.aload_n 0, 1) := by decide +kernel
theorem dX8_add_1 : decode cX8_add 1 = .ok (.getfield 15, 3) := by decide +kernel
theorem dX8_add_4 : decode cX8_add 4 = .ok (.ifCond .lt 35, 3) := by decide +kernel
theorem dX8_add_7 : decode cX8_add 7 = .ok (.aload_n 0, 1) := by decide +kernel
theorem dX8_add_8 : decode cX8_add 8 = .ok (.getfield 15, 3) := by decide +kernel
theorem dX8_add_11 : decode cX8_add 11 = .ok (.aload_n 0, 1) := by decide +kernel
theorem dX8_add_12 : decode cX8_add 12 = .ok (.getfield 11, 3) := by decide +kernel
theorem dX8_add_15 : decode cX8_add 15 = .ok (.arraylength, 1) := by decide +kernel
theorem dX8_add_16 : decode cX8_add 16 = .ok (.if_icmp .ge 23, 3) := by decide +kernel
theorem dX8_add_19 : decode cX8_add 19 = .ok (.aload_n 0, 1) := by decide +kernel
theorem dX8_add_20 : decode cX8_add 20 = .ok (.getfield 11, 3) := by decide +kernel
theorem dX8_add_23 : decode cX8_add 23 = .ok (.aload_n 0, 1) := by decide +kernel
theorem dX8_add_24 : decode cX8_add 24 = .ok (.getfield 15, 3) := by decide +kernel
theorem dX8_add_27 : decode cX8_add 27 = .ok (.iload_n 1, 1) := by decide +kernel
theorem dX8_add_28 : decode cX8_add 28 = .ok (.iastore, 1) := by decide +kernel
theorem dX8_add_29 : decode cX8_add 29 = .ok (.aload_n 0, 1) := by decide +kernel
theorem dX8_add_30 : decode cX8_add 30 = .ok (.dup, 1) := by decide +kernel
theorem dX8_add_31 : decode cX8_add 31 = .ok (.getfield 15, 3) := by decide +kernel
theorem dX8_add_34 : decode cX8_add 34 = .ok (.iconst 1, 1) := by decide +kernel
theorem dX8_add_35 : decode cX8_add 35 = .ok (.iadd, 1) := by decide +kernel
theorem dX8_add_36 : decode cX8_add 36 = .ok (.putfield 15, 3) := by decide +kernel
theorem dX8_add_39 : decode cX8_add 39 = .ok (.return_, 1) := by decide +kernel
theorem dX8_on_0 : decode cX8_on 0 = .ok (.iload_n 1, 1) := by decide +kernel
theorem dX8_on_1 : decode cX8_on 1 = .ok (.ifCond .lt 10, 3) := by decide +kernel
theorem dX8_on_4 : decode cX8_on 4 = .ok (.aload_n 0, 1) := by decide +kernel
theorem dX8_on_5 : decode cX8_on 5 = .ok (.getfield 15, 3) := by decide +kernel
theorem dX8_on_8 : decode cX8_on 8 = .ok (.ifCond .gt 5, 3) := by decide +kernel
theorem dX8_on_11 : decode cX8_on 11 = .ok (.iconst 0, 1) := by decide +kernel
theorem dX8_on_12 : decode cX8_on 12 = .ok (.ireturn, 1) := by decide +kernel
theorem dX8_on_13 : decode cX8_on 13 = .ok (.iload_n 1, 1) := by decide +kernel
theorem dX8_on_14 : decode cX8_on 14 = .ok (.aload_n 0, 1) := by decide +kernel
theorem dX8_on_15 : decode cX8_on 15 = .ok (.getfield 15, 3) := by decide +kernel
theorem dX8_on_18 : decode cX8_on 18 = .ok (.irem, 1) := by decide +kernel
theorem dX8_on_19 : decode cX8_on 19 = .ok (.istore_n 2, 1) := by decide +kernel
theorem dX8_on_20 : decode cX8_on 20 = .ok (.iload_n 2, 1) := by decide +kernel
theorem dX8_on_21 : decode cX8_on 21 = .ok (.aload_n 0, 1) := by decide +kernel
theorem dX8_on_22 : decode cX8_on 22 = .ok (.getfield 11, 3) := by decide +kernel
theorem dX8_on_25 : decode cX8_on 25 = .ok (.arraylength, 1) := by decide +kernel
theorem dX8_on_26 : decode cX8_on 26 = .ok (.if_icmp .ge 12, 3) := by decide +kernel
theorem dX8_on_29 : decode cX8_on 29 = .ok (.aload_n 0, 1) := by decide +kernel
theorem dX8_on_30 : decode cX8_on 30 = .ok (.getfield 11, 3) := by decide +kernel
theorem dX8_on_33 : decode cX8_on 33 = .ok (.iload_n 2, 1) := by decide +kernel
theorem dX8_on_34 : decode cX8_on 34 = .ok (.iaload, 1) := by decide +kernel
theorem dX8_on_35 : decode cX8_on 35 = .ok (.goto 4, 3) := by decide +kernel
theorem dX8_on_38 : decode cX8_on 38 = .ok (.iconst 0, 1) := by decide +kernel
theorem dX8_on_39 : decode cX8_on 39 = .ok (.ireturn, 1) := by decide +kernel
theorem dX8_change_0 : decode cX8_change 0 = .ok (.iload_n 1, 1) := by decide +kernel
theorem dX8_change_1 : decode cX8_change 1 = .ok (.ifCond .lt 20, 3) := by decide +kernel
theorem dX8_change_4 : decode cX8_change 4 = .ok (.iload_n 1, 1) := by decide +kernel
theorem dX8_change_5 : decode cX8_change 5 = .ok (.aload_n 0, 1) := by decide +kernel
theorem dX8_change_6 : decode cX8_change 6 = .ok (.getfield 15, 3) := by decide +kernel
theorem dX8_change_9 : decode cX8_change 9 = .ok (.if_icmp .ge 12, 3) := by decide +kernel
theorem dX8_change_12 : decode cX8_change 12 = .ok (.iload_n 1, 1) := by decide +kernel
theorem dX8_change_13 : decode cX8_change 13 = .ok (.aload_n 0, 1) := by decide +kernel
theorem dX8_change_14 : decode cX8_change 14 = .ok (.getfield 11, 3) := by decide +kernel
theorem dX8_change_17 : decode cX8_change 17 = .ok (.arraylength, 1) := by decide +kernel
theorem dX8_change_18 : decode cX8_change 18 = .ok (.if_icmp .lt 6, 3) := by decide +kernel
theorem dX8_change_21 : decode cX8_change 21 = .ok (.bipush (-9), 2) := by decide +kernel
theorem dX8_change_23 : decode cX8_change 23 = .ok (.ireturn, 1) := by decide +kernel
theorem dX8_change_24 : decode cX8_change 24 = .ok (.aload_n 0, 1) := by decide +kernel
theorem dX8_change_25 : decode cX8_change 25 = .ok (.getfield 11, 3) := by decide +kernel
theorem dX8_change_28 : decode cX8_change 28 = .ok (.iload_n 1, 1) := by decide +kernel
theorem dX8_change_29 : decode cX8_change 29 = .ok (.iaload, 1) := by decide +kernel
theorem dX8_change_30 : decode cX8_change 30 = .ok (.istore_n 3, 1) := by decide +kernel
theorem dX8_change_31 : decode cX8_change 31 = .ok (.aload_n 0, 1) := by decide +kernel
theorem dX8_change_32 : decode cX8_change 32 = .ok (.getfield 11, 3) := by decide +kernel
theorem dX8_change_35 : decode cX8_change 35 = .ok (.iload_n 1, 1) := by decide +kernel
theorem dX8_change_36 : decode cX8_change 36 = .ok (.iload_n 2, 1) := by decide +kernel
theorem dX8_change_37 : decode cX8_change 37 = .ok (.iastore, 1) := by decide +kernel
theorem dX8_change_38 : decode cX8_change 38 = .ok (.iload_n 3, 1) := by decide +kernel
theorem dX8_change_39 : decode cX8_change 39 = .ok (.ireturn, 1) := by decide +kernel
theorem dX9_init_0 : decode cX9_init 0 = .ok (.aload_n 0, 1) := by decide +kernel
theorem dX9_init_1 : decode cX9_init 1 = .ok (.invokespecial 1, 3) := by decide +kernel
theorem dX9_init_4 : decode cX9_init 4 = .ok (.return_, 1) := by decide +kernel
theorem dX9_copyFrom_0 : decode cX9_copyFrom 0 = .ok (.aload_n 0, 1) := by decide +kernel
theorem dX9_copyFrom_1 : decode cX9_copyFrom 1 = .ok (.aload_n 1, 1) := by decide +kernel
theorem dX9_copyFrom_2 : decode cX9_copyFrom 2 = .ok (.getfield 7, 3) := by decide +kernel
theorem dX9_copyFrom_5 : decode cX9_copyFrom 5 = .ok (.putfield 7, 3) := by decide +kernel
theorem dX9_copyFrom_8 : decode cX9_copyFrom 8 = .ok (.aload_n 0, 1) := by decide +kernel
theorem dX9_copyFrom_9 : decode cX9_copyFrom 9 = .ok (.aload_n 1, 1) := by decide +kernel
theorem dX9_copyFrom_10 : decode cX9_copyFrom 10 = .ok (.getfield 13, 3) := by decide +kernel
theorem dX9_copyFrom_13 : decode cX9_copyFrom 13 = .ok (.putfield 13, 3) := by decide +kernel
theorem dX9_copyFrom_16 : decode cX9_copyFrom 16 = .ok (.aload_n 0, 1) := by decide +kernel
theorem dX9_copyFrom_17 : decode cX9_copyFrom 17 = .ok (.aload_n 1, 1) := by decide +kernel
theorem dX9_copyFrom_18 : decode cX9_copyFrom 18 = .ok (.getfield 16, 3) := by decide +kernel
theorem dX9_copyFrom_21 : decode cX9_copyFrom 21 = .ok (.putfield 16, 3) := by decide +kernel
theorem dX9_copyFrom_24 : decode cX9_copyFrom 24 = .ok (.aload_n 0, 1) := by decide +kernel
theorem dX9_copyFrom_25 : decode cX9_copyFrom 25 = .ok (.aload_n 1, 1) := by decide +kernel
theorem dX9_copyFrom_26 : decode cX9_copyFrom 26 = .ok (.getfield 19, 3) := by decide +kernel
theorem dX9_copyFrom_29 : decode cX9_copyFrom 29 = .ok (.putfield 19, 3) := by decide +kernel
theorem dX9_copyFrom_32 : decode cX9_copyFrom 32 = .ok (.return_, 1) := by decide +kernel
theorem dX9_cableFor_0 : decode cX9_cableFor 0 = .ok (.iload_n 1, 1) := by decide +kernel
theorem dX9_cableFor_1 : decode cX9_cableFor 1 = .ok (.iload_n 1, 1) := by decide +kernel
theorem dX9_cableFor_2 : decode cX9_cableFor 2 = .ok (.aload_n 0, 1) := by decide +kernel
theorem dX9_cableFor_3 : decode cX9_cableFor 3 = .ok (.getfield 19, 3) := by decide +kernel
theorem dX9_cableFor_6 : decode cX9_cableFor 6 = .ok (.imul, 1) := by decide +kernel
theorem dX9_cableFor_7 : decode cX9_cableFor 7 = .ok (.bipush 99, 2) := by decide +kernel
theorem dX9_cableFor_9 : decode cX9_cableFor 9 = .ok (.iadd, 1) := by decide +kernel
theorem dX9_cableFor_10 : decode cX9_cableFor 10 = .ok (.bipush 100, 2) := by decide +kernel
theorem dX9_cableFor_12 : decode cX9_cableFor 12 = .ok (.idiv, 1) := by decide +kernel
theorem dX9_cableFor_13 : decode cX9_cableFor 13 = .ok (.iadd, 1) := by decide +kernel
theorem dX9_cableFor_14 : decode cX9_cableFor 14 = .ok (.ireturn, 1) := by decide +kernel
theorem dX9_mostUnits_0 : decode cX9_mostUnits 0 = .ok (.bipush 100, 2) := by decide +kernel
theorem dX9_mostUnits_2 : decode cX9_mostUnits 2 = .ok (.aload_n 0, 1) := by decide +kernel
theorem dX9_mostUnits_3 : decode cX9_mostUnits 3 = .ok (.getfield 19, 3) := by decide +kernel
theorem dX9_mostUnits_6 : decode cX9_mostUnits 6 = .ok (.iadd, 1) := by decide +kernel
theorem dX9_mostUnits_7 : decode cX9_mostUnits 7 = .ok (.istore_n 3, 1) := by decide +kernel
theorem dX9_mostUnits_8 : decode cX9_mostUnits 8 = .ok (.iload_n 3, 1) := by decide +kernel
theorem dX9_mostUnits_9 : decode cX9_mostUnits 9 = .ok (.ifCond .le 16, 3) := by decide +kernel
theorem dX9_mostUnits_12 : decode cX9_mostUnits 12 = .ok (.iload_n 1, 1) := by decide +kernel
theorem dX9_mostUnits_13 : decode cX9_mostUnits 13 = .ok (.bipush 100, 2) := by decide +kernel
theorem dX9_mostUnits_15 : decode cX9_mostUnits 15 = .ok (.iload_n 2, 1) := by decide +kernel
theorem dX9_mostUnits_16 : decode cX9_mostUnits 16 = .ok (.imul, 1) := by decide +kernel
theorem dX9_mostUnits_17 : decode cX9_mostUnits 17 = .ok (.iload_n 3, 1) := by decide +kernel
theorem dX9_mostUnits_18 : decode cX9_mostUnits 18 = .ok (.idiv, 1) := by decide +kernel
theorem dX9_mostUnits_19 : decode cX9_mostUnits 19 = .ok (.invokestatic 22, 3) := by decide +kernel
theorem dX9_mostUnits_22 : decode cX9_mostUnits 22 = .ok (.goto 4, 3) := by decide +kernel
theorem dX9_mostUnits_25 : decode cX9_mostUnits 25 = .ok (.iconst 0, 1) := by decide +kernel
theorem dX9_mostUnits_26 : decode cX9_mostUnits 26 = .ok (.ireturn, 1) := by decide +kernel
