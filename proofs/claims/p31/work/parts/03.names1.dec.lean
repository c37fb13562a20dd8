theorem dX5_init_0 : decode cX5_init 0 = .ok (.aload_n 0, 1) := by decide +kernel
theorem dX5_init_1 : decode cX5_init 1 = .ok (.invokespecial 3, 3) := by decide +kernel
theorem dX5_init_4 : decode cX5_init 4 = .ok (.aload_n 0, 1) := by decide +kernel
theorem dX5_init_5 : decode cX5_init 5 = .ok (.bipush 9, 2) := by decide +kernel
theorem dX5_init_7 : decode cX5_init 7 = .ok (.anewarray 11, 3) := by decide +kernel
theorem dX5_init_10 : decode cX5_init 10 = .ok (.putfield 13, 3) := by decide +kernel
theorem dX5_init_13 : decode cX5_init 13 = .ok (.aload_n 0, 1) := by decide +kernel
theorem dX5_init_14 : decode cX5_init 14 = .ok (.iconst 4, 1) := by decide +kernel
theorem dX5_init_15 : decode cX5_init 15 = .ok (.anewarray 17, 3) := by decide +kernel
theorem dX5_init_18 : decode cX5_init 18 = .ok (.putfield 19, 3) := by decide +kernel
theorem dX5_init_21 : decode cX5_init 21 = .ok (.aload_n 0, 1) := by decide +kernel
theorem dX5_init_22 : decode cX5_init 22 = .ok (.new 23, 3) := by decide +kernel
theorem dX5_init_25 : decode cX5_init 25 = .ok (.dup, 1) := by decide +kernel
theorem dX5_init_26 : decode cX5_init 26 = .ok (.invokespecial 25, 3) := by decide +kernel
theorem dX5_init_29 : decode cX5_init 29 = .ok (.putfield 26, 3) := by decide +kernel
theorem dX5_init_32 : decode cX5_init 32 = .ok (.aload_n 0, 1) := by decide +kernel
theorem dX5_init_33 : decode cX5_init 33 = .ok (.new 30, 3) := by decide +kernel
theorem dX5_init_36 : decode cX5_init 36 = .ok (.dup, 1) := by decide +kernel
theorem dX5_init_37 : decode cX5_init 37 = .ok (.invokespecial 32, 3) := by decide +kernel
theorem dX5_init_40 : decode cX5_init 40 = .ok (.putfield 33, 3) := by decide +kernel
theorem dX5_init_43 : decode cX5_init 43 = .ok (.aload_n 0, 1) := by decide +kernel
theorem dX5_init_44 : decode cX5_init 44 = .ok (.new 37, 3) := by decide +kernel
theorem dX5_init_47 : decode cX5_init 47 = .ok (.dup, 1) := by decide +kernel
theorem dX5_init_48 : decode cX5_init 48 = .ok (.invokespecial 39, 3) := by decide +kernel
theorem dX5_init_51 : decode cX5_init 51 = .ok (.putfield 40, 3) := by decide +kernel
theorem dX5_init_54 : decode cX5_init 54 = .ok (.iconst 0, 1) := by decide +kernel
theorem dX5_init_55 : decode cX5_init 55 = .ok (.istore_n 1, 1) := by decide +kernel
theorem dX5_init_56 : decode cX5_init 56 = .ok (.iload_n 1, 1) := by decide +kernel
theorem dX5_init_57 : decode cX5_init 57 = .ok (.aload_n 0, 1) := by decide +kernel
theorem dX5_init_58 : decode cX5_init 58 = .ok (.getfield 13, 3) := by decide +kernel
theorem dX5_init_61 : decode cX5_init 61 = .ok (.arraylength, 1) := by decide +kernel
theorem dX5_init_62 : decode cX5_init 62 = .ok (.if_icmp .ge 22, 3) := by decide +kernel
theorem dX5_init_65 : decode cX5_init 65 = .ok (.aload_n 0, 1) := by decide +kernel
theorem dX5_init_66 : decode cX5_init 66 = .ok (.getfield 13, 3) := by decide +kernel
theorem dX5_init_69 : decode cX5_init 69 = .ok (.iload_n 1, 1) := by decide +kernel
theorem dX5_init_70 : decode cX5_init 70 = .ok (.new 11, 3) := by decide +kernel
theorem dX5_init_73 : decode cX5_init 73 = .ok (.dup, 1) := by decide +kernel
theorem dX5_init_74 : decode cX5_init 74 = .ok (.invokespecial 44, 3) := by decide +kernel
theorem dX5_init_77 : decode cX5_init 77 = .ok (.aastore, 1) := by decide +kernel
theorem dX5_init_78 : decode cX5_init 78 = .ok (.iinc 1 1, 3) := by decide +kernel
theorem dX5_init_81 : decode cX5_init 81 = .ok (.goto (-25), 3) := by decide +kernel
theorem dX5_init_84 : decode cX5_init 84 = .ok (.iconst 0, 1) := by decide +kernel
theorem dX5_init_85 : decode cX5_init 85 = .ok (.istore_n 1, 1) := by decide +kernel
theorem dX5_init_86 : decode cX5_init 86 = .ok (.iload_n 1, 1) := by decide +kernel
theorem dX5_init_87 : decode cX5_init 87 = .ok (.aload_n 0, 1) := by decide +kernel
theorem dX5_init_88 : decode cX5_init 88 = .ok (.getfield 19, 3) := by decide +kernel
theorem dX5_init_91 : decode cX5_init 91 = .ok (.arraylength, 1) := by decide +kernel
theorem dX5_init_92 : decode cX5_init 92 = .ok (.if_icmp .ge 22, 3) := by decide +kernel
theorem dX5_init_95 : decode cX5_init 95 = .ok (.aload_n 0, 1) := by decide +kernel
theorem dX5_init_96 : decode cX5_init 96 = .ok (.getfield 19, 3) := by decide +kernel
theorem dX5_init_99 : decode cX5_init 99 = .ok (.iload_n 1, 1) := by decide +kernel
theorem dX5_init_100 : decode cX5_init 100 = .ok (.new 17, 3) := by decide +kernel
theorem dX5_init_103 : decode cX5_init 103 = .ok (.dup, 1) := by decide +kernel
theorem dX5_init_104 : decode cX5_init 104 = .ok (.invokespecial 45, 3) := by decide +kernel
theorem dX5_init_107 : decode cX5_init 107 = .ok (.aastore, 1) := by decide +kernel
theorem dX5_init_108 : decode cX5_init 108 = .ok (.iinc 1 1, 3) := by decide +kernel
theorem dX5_init_111 : decode cX5_init 111 = .ok (.goto (-25), 3) := by decide +kernel
theorem dX5_init_114 : decode cX5_init 114 = .ok (.return_, 1) := by decide +kernel
theorem dX5_begin_0 : decode cX5_begin 0 = .ok (.aload_n 0, 1) := by decide +kernel
theorem dX5_begin_1 : decode cX5_begin 1 = .ok (.iconst 0, 1) := by decide +kernel
theorem dX5_begin_2 : decode cX5_begin 2 = .ok (.putfield 46, 3) := by decide +kernel
theorem dX5_begin_5 : decode cX5_begin 5 = .ok (.aload_n 0, 1) := by decide +kernel
theorem dX5_begin_6 : decode cX5_begin 6 = .ok (.iconst 0, 1) := by decide +kernel
theorem dX5_begin_7 : decode cX5_begin 7 = .ok (.putfield 50, 3) := by decide +kernel
theorem dX5_begin_10 : decode cX5_begin 10 = .ok (.aload_n 0, 1) := by decide +kernel
theorem dX5_begin_11 : decode cX5_begin 11 = .ok (.getfield 19, 3) := by decide +kernel
theorem dX5_begin_14 : decode cX5_begin 14 = .ok (.astore 4, 2) := by decide +kernel
theorem dX5_begin_16 : decode cX5_begin 16 = .ok (.aload 4, 2) := by decide +kernel
theorem dX5_begin_18 : decode cX5_begin 18 = .ok (.arraylength, 1) := by decide +kernel
theorem dX5_begin_19 : decode cX5_begin 19 = .ok (.istore 5, 2) := by decide +kernel
theorem dX5_begin_21 : decode cX5_begin 21 = .ok (.iconst 0, 1) := by decide +kernel
theorem dX5_begin_22 : decode cX5_begin 22 = .ok (.istore 6, 2) := by decide +kernel
theorem dX5_begin_24 : decode cX5_begin 24 = .ok (.iload 6, 2) := by decide +kernel
theorem dX5_begin_26 : decode cX5_begin 26 = .ok (.iload 5, 2) := by decide +kernel
theorem dX5_begin_28 : decode cX5_begin 28 = .ok (.if_icmp .ge 25, 3) := by decide +kernel
theorem dX5_begin_31 : decode cX5_begin 31 = .ok (.aload 4, 2) := by decide +kernel
theorem dX5_begin_33 : decode cX5_begin 33 = .ok (.iload 6, 2) := by decide +kernel
theorem dX5_begin_35 : decode cX5_begin 35 = .ok (.aaload, 1) := by decide +kernel
theorem dX5_begin_36 : decode cX5_begin 36 = .ok (.astore 7, 2) := by decide +kernel
theorem dX5_begin_38 : decode cX5_begin 38 = .ok (.aload 7, 2) := by decide +kernel
theorem dX5_begin_40 : decode cX5_begin 40 = .ok (.iconst 0, 1) := by decide +kernel
theorem dX5_begin_41 : decode cX5_begin 41 = .ok (.iconst 0, 1) := by decide +kernel
theorem dX5_begin_42 : decode cX5_begin 42 = .ok (.iconst 0, 1) := by decide +kernel
theorem dX5_begin_43 : decode cX5_begin 43 = .ok (.iconst 0, 1) := by decide +kernel
theorem dX5_begin_44 : decode cX5_begin 44 = .ok (.invokevirtual 53, 3) := by decide +kernel
theorem dX5_begin_47 : decode cX5_begin 47 = .ok (.iinc 6 1, 3) := by decide +kernel
theorem dX5_begin_50 : decode cX5_begin 50 = .ok (.goto (-26), 3) := by decide +kernel
theorem dX5_begin_53 : decode cX5_begin 53 = .ok (.aload_n 0, 1) := by decide +kernel
theorem dX5_begin_54 : decode cX5_begin 54 = .ok (.getfield 26, 3) := by decide +kernel
theorem dX5_begin_57 : decode cX5_begin 57 = .ok (.iconst 0, 1) := by decide +kernel
theorem dX5_begin_58 : decode cX5_begin 58 = .ok (.putfield 57, 3) := by decide +kernel
theorem dX5_begin_61 : decode cX5_begin 61 = .ok (.aload_n 0, 1) := by decide +kernel
theorem dX5_begin_62 : decode cX5_begin 62 = .ok (.getfield 33, 3) := by decide +kernel
theorem dX5_begin_65 : decode cX5_begin 65 = .ok (.iload_n 1, 1) := by decide +kernel
theorem dX5_begin_66 : decode cX5_begin 66 = .ok (.iload_n 2, 1) := by decide +kernel
theorem dX5_begin_67 : decode cX5_begin 67 = .ok (.invokevirtual 60, 3) := by decide +kernel
theorem dX5_begin_70 : decode cX5_begin 70 = .ok (.aload_n 0, 1) := by decide +kernel
theorem dX5_begin_71 : decode cX5_begin 71 = .ok (.getfield 40, 3) := by decide +kernel
theorem dX5_begin_74 : decode cX5_begin 74 = .ok (.iload_n 3, 1) := by decide +kernel
theorem dX5_begin_75 : decode cX5_begin 75 = .ok (.invokevirtual 64, 3) := by decide +kernel
theorem dX5_begin_78 : decode cX5_begin 78 = .ok (.aload_n 0, 1) := by decide +kernel
theorem dX5_begin_79 : decode cX5_begin 79 = .ok (.iload_n 3, 1) := by decide +kernel
theorem dX5_begin_80 : decode cX5_begin 80 = .ok (.putfield 67, 3) := by decide +kernel
theorem dX5_begin_83 : decode cX5_begin 83 = .ok (.aload_n 0, 1) := by decide +kernel
theorem dX5_begin_84 : decode cX5_begin 84 = .ok (.iconst 0, 1) := by decide +kernel
theorem dX5_begin_85 : decode cX5_begin 85 = .ok (.putfield 70, 3) := by decide +kernel
theorem dX5_begin_88 : decode cX5_begin 88 = .ok (.aload_n 0, 1) := by decide +kernel
theorem dX5_begin_89 : decode cX5_begin 89 = .ok (.iconst 0, 1) := by decide +kernel
theorem dX5_begin_90 : decode cX5_begin 90 = .ok (.putfield 73, 3) := by decide +kernel
theorem dX5_begin_93 : decode cX5_begin 93 = .ok (.aload_n 0, 1) := by decide +kernel
theorem dX5_begin_94 : decode cX5_begin 94 = .ok (.iconst 0, 1) := by decide +kernel
theorem dX5_begin_95 : decode cX5_begin 95 = .ok (.putfield 76, 3) := by decide +kernel
theorem dX5_begin_98 : decode cX5_begin 98 = .ok (.aload_n 0, 1) := by decide +kernel
theorem dX5_begin_99 : decode cX5_begin 99 = .ok (.iconst 0, 1) := by decide +kernel
theorem dX5_begin_100 : decode cX5_begin 100 = .ok (.putfield 79, 3) := by decide +kernel
theorem dX5_begin_103 : decode cX5_begin 103 = .ok (.return_, 1) := by decide +kernel
theorem dX5_addZone_0 : decode cX5_addZone 0 = .ok (.aload_n 0, 1) := by decide +kernel
theorem dX5_addZone_1 : decode cX5_addZone 1 = .ok (.getfield 46, 3) := by decide +kernel
theorem dX5_addZone_4 : decode cX5_addZone 4 = .ok (.ifCond .lt 61, 3) := by decide +kernel
theorem dX5_addZone_7 : decode cX5_addZone 7 = .ok (.aload_n 0, 1) := by decide +kernel
theorem dX5_addZone_8 : decode cX5_addZone 8 = .ok (.getfield 46, 3) := by decide +kernel
theorem dX5_addZone_11 : decode cX5_addZone 11 = .ok (.aload_n 0, 1) := by decide +kernel
theorem dX5_addZone_12 : decode cX5_addZone 12 = .ok (.getfield 13, 3) := by decide +kernel
theorem dX5_addZone_15 : decode cX5_addZone 15 = .ok (.arraylength, 1) := by decide +kernel
theorem dX5_addZone_16 : decode cX5_addZone 16 = .ok (.if_icmp .ge 49, 3) := by decide +kernel
theorem dX5_addZone_19 : decode cX5_addZone 19 = .ok (.aload_n 0, 1) := by decide +kernel
theorem dX5_addZone_20 : decode cX5_addZone 20 = .ok (.getfield 13, 3) := by decide +kernel
theorem dX5_addZone_23 : decode cX5_addZone 23 = .ok (.aload_n 0, 1) := by decide +kernel
theorem dX5_addZone_24 : decode cX5_addZone 24 = .ok (.getfield 46, 3) := by decide +kernel
theorem dX5_addZone_27 : decode cX5_addZone 27 = .ok (.aaload, 1) := by decide +kernel
theorem dX5_addZone_28 : decode cX5_addZone 28 = .ok (.astore 5, 2) := by decide +kernel
theorem dX5_addZone_30 : decode cX5_addZone 30 = .ok (.aload 5, 2) := by decide +kernel
theorem dX5_addZone_32 : decode cX5_addZone 32 = .ok (.iload_n 1, 1) := by decide +kernel
theorem dX5_addZone_33 : decode cX5_addZone 33 = .ok (.putfield 82, 3) := by decide +kernel
theorem dX5_addZone_36 : decode cX5_addZone 36 = .ok (.aload 5, 2) := by decide +kernel
theorem dX5_addZone_38 : decode cX5_addZone 38 = .ok (.iload_n 2, 1) := by decide +kernel
theorem dX5_addZone_39 : decode cX5_addZone 39 = .ok (.putfield 85, 3) := by decide +kernel
theorem dX5_addZone_42 : decode cX5_addZone 42 = .ok (.aload 5, 2) := by decide +kernel
theorem dX5_addZone_44 : decode cX5_addZone 44 = .ok (.iload_n 3, 1) := by decide +kernel
theorem dX5_addZone_45 : decode cX5_addZone 45 = .ok (.putfield 88, 3) := by decide +kernel
theorem dX5_addZone_48 : decode cX5_addZone 48 = .ok (.aload 5, 2) := by decide +kernel
theorem dX5_addZone_50 : decode cX5_addZone 50 = .ok (.iload 4, 2) := by decide +kernel
theorem dX5_addZone_52 : decode cX5_addZone 52 = .ok (.putfield 91, 3) := by decide +kernel
theorem dX5_addZone_55 : decode cX5_addZone 55 = .ok (.aload_n 0, 1) := by decide +kernel
theorem dX5_addZone_56 : decode cX5_addZone 56 = .ok (.dup, 1) := by decide +kernel
theorem dX5_addZone_57 : decode cX5_addZone 57 = .ok (.getfield 46, 3) := by decide +kernel
theorem dX5_addZone_60 : decode cX5_addZone 60 = .ok (.iconst 1, 1) := by decide +kernel
theorem dX5_addZone_61 : decode cX5_addZone 61 = .ok (.iadd, 1) := by decide +kernel
theorem dX5_addZone_62 : decode cX5_addZone 62 = .ok (.putfield 46, 3) := by decide +kernel
theorem dX5_addZone_65 : decode cX5_addZone 65 = .ok (.return_, 1) := by decide +kernel
theorem dX5_addShip_0 : decode cX5_addShip 0 = .ok (.aload_n 0, 1) := by decide +kernel
theorem dX5_addShip_1 : decode cX5_addShip 1 = .ok (.getfield 50, 3) := by decide +kernel
theorem dX5_addShip_4 : decode cX5_addShip 4 = .ok (.ifCond .lt 42, 3) := by decide +kernel
theorem dX5_addShip_7 : decode cX5_addShip 7 = .ok (.aload_n 0, 1) := by decide +kernel
theorem dX5_addShip_8 : decode cX5_addShip 8 = .ok (.getfield 50, 3) := by decide +kernel
theorem dX5_addShip_11 : decode cX5_addShip 11 = .ok (.aload_n 0, 1) := by decide +kernel
theorem dX5_addShip_12 : decode cX5_addShip 12 = .ok (.getfield 19, 3) := by decide +kernel
theorem dX5_addShip_15 : decode cX5_addShip 15 = .ok (.arraylength, 1) := by decide +kernel
theorem dX5_addShip_16 : decode cX5_addShip 16 = .ok (.if_icmp .ge 30, 3) := by decide +kernel
theorem dX5_addShip_19 : decode cX5_addShip 19 = .ok (.aload_n 0, 1) := by decide +kernel
theorem dX5_addShip_20 : decode cX5_addShip 20 = .ok (.getfield 19, 3) := by decide +kernel
theorem dX5_addShip_23 : decode cX5_addShip 23 = .ok (.aload_n 0, 1) := by decide +kernel
theorem dX5_addShip_24 : decode cX5_addShip 24 = .ok (.getfield 50, 3) := by decide +kernel
theorem dX5_addShip_27 : decode cX5_addShip 27 = .ok (.aaload, 1) := by decide +kernel
theorem dX5_addShip_28 : decode cX5_addShip 28 = .ok (.iload_n 1, 1) := by decide +kernel
theorem dX5_addShip_29 : decode cX5_addShip 29 = .ok (.iload_n 2, 1) := by decide +kernel
theorem dX5_addShip_30 : decode cX5_addShip 30 = .ok (.iload_n 3, 1) := by decide +kernel
theorem dX5_addShip_31 : decode cX5_addShip 31 = .ok (.iload 4, 2) := by decide +kernel
theorem dX5_addShip_33 : decode cX5_addShip 33 = .ok (.invokevirtual 53, 3) := by decide +kernel
theorem dX5_addShip_36 : decode cX5_addShip 36 = .ok (.aload_n 0, 1) := by decide +kernel
theorem dX5_addShip_37 : decode cX5_addShip 37 = .ok (.dup, 1) := by decide +kernel
theorem dX5_addShip_38 : decode cX5_addShip 38 = .ok (.getfield 50, 3) := by decide +kernel
theorem dX5_addShip_41 : decode cX5_addShip 41 = .ok (.iconst 1, 1) := by decide +kernel
theorem dX5_addShip_42 : decode cX5_addShip 42 = .ok (.iadd, 1) := by decide +kernel
theorem dX5_addShip_43 : decode cX5_addShip 43 = .ok (.putfield 50, 3) := by decide +kernel
theorem dX5_addShip_46 : decode cX5_addShip 46 = .ok (.return_, 1) := by decide +kernel
theorem dX5_copyFrom_0 : decode cX5_copyFrom 0 = .ok (.iconst 0, 1) := by decide +kernel
theorem dX5_copyFrom_1 : decode cX5_copyFrom 1 = .ok (.istore_n 2, 1) := by decide +kernel
theorem dX5_copyFrom_2 : decode cX5_copyFrom 2 = .ok (.iload_n 2, 1) := by decide +kernel
theorem dX5_copyFrom_3 : decode cX5_copyFrom 3 = .ok (.aload_n 0, 1) := by decide +kernel
theorem dX5_copyFrom_4 : decode cX5_copyFrom 4 = .ok (.getfield 13, 3) := by decide +kernel
theorem dX5_copyFrom_7 : decode cX5_copyFrom 7 = .ok (.arraylength, 1) := by decide +kernel
theorem dX5_copyFrom_8 : decode cX5_copyFrom 8 = .ok (.if_icmp .ge 33, 3) := by decide +kernel
theorem dX5_copyFrom_11 : decode cX5_copyFrom 11 = .ok (.iload_n 2, 1) := by decide +kernel
theorem dX5_copyFrom_12 : decode cX5_copyFrom 12 = .ok (.aload_n 1, 1) := by decide +kernel
theorem dX5_copyFrom_13 : decode cX5_copyFrom 13 = .ok (.getfield 13, 3) := by decide +kernel
theorem dX5_copyFrom_16 : decode cX5_copyFrom 16 = .ok (.arraylength, 1) := by decide +kernel
theorem dX5_copyFrom_17 : decode cX5_copyFrom 17 = .ok (.if_icmp .ge 24, 3) := by decide +kernel
theorem dX5_copyFrom_20 : decode cX5_copyFrom 20 = .ok (.aload_n 0, 1) := by decide +kernel
theorem dX5_copyFrom_21 : decode cX5_copyFrom 21 = .ok (.getfield 13, 3) := by decide +kernel
theorem dX5_copyFrom_24 : decode cX5_copyFrom 24 = .ok (.iload_n 2, 1) := by decide +kernel
theorem dX5_copyFrom_25 : decode cX5_copyFrom 25 = .ok (.aaload, 1) := by decide +kernel
theorem dX5_copyFrom_26 : decode cX5_copyFrom 26 = .ok (.aload_n 1, 1) := by decide +kernel
theorem dX5_copyFrom_27 : decode cX5_copyFrom 27 = .ok (.getfield 13, 3) := by decide +kernel
theorem dX5_copyFrom_30 : decode cX5_copyFrom 30 = .ok (.iload_n 2, 1) := by decide +kernel
theorem dX5_copyFrom_31 : decode cX5_copyFrom 31 = .ok (.aaload, 1) := by decide +kernel
theorem dX5_copyFrom_32 : decode cX5_copyFrom 32 = .ok (.invokevirtual 94, 3) := by decide +kernel
theorem dX5_copyFrom_35 : decode cX5_copyFrom 35 = .ok (.iinc 2 1, 3) := by decide +kernel
theorem dX5_copyFrom_38 : decode cX5_copyFrom 38 = .ok (.goto (-36), 3) := by decide +kernel
theorem dX5_copyFrom_41 : decode cX5_copyFrom 41 = .ok (.iconst 0, 1) := by decide +kernel
theorem dX5_copyFrom_42 : decode cX5_copyFrom 42 = .ok (.istore_n 2, 1) := by decide +kernel
theorem dX5_copyFrom_43 : decode cX5_copyFrom 43 = .ok (.iload_n 2, 1) := by decide +kernel
theorem dX5_copyFrom_44 : decode cX5_copyFrom 44 = .ok (.aload_n 0, 1) := by decide +kernel
theorem dX5_copyFrom_45 : decode cX5_copyFrom 45 = .ok (.getfield 19, 3) := by decide +kernel
theorem dX5_copyFrom_48 : decode cX5_copyFrom 48 = .ok (.arraylength, 1) := by decide +kernel
theorem dX5_copyFrom_49 : decode cX5_copyFrom 49 = .ok (.if_icmp .ge 33, 3) := by decide +kernel
theorem dX5_copyFrom_52 : decode cX5_copyFrom 52 = .ok (.iload_n 2, 1) := by decide +kernel
theorem dX5_copyFrom_53 : decode cX5_copyFrom 53 = .ok (.aload_n 1, 1) := by decide +kernel
theorem dX5_copyFrom_54 : decode cX5_copyFrom 54 = .ok (.getfield 19, 3) := by decide +kernel
theorem dX5_copyFrom_57 : decode cX5_copyFrom 57 = .ok (.arraylength, 1) := by decide +kernel
theorem dX5_copyFrom_58 : decode cX5_copyFrom 58 = .ok (.if_icmp .ge 24, 3) := by decide +kernel
theorem dX5_copyFrom_61 : decode cX5_copyFrom 61 = .ok (.aload_n 0, 1) := by decide +kernel
theorem dX5_copyFrom_62 : decode cX5_copyFrom 62 = .ok (.getfield 19, 3) := by decide +kernel
theorem dX5_copyFrom_65 : decode cX5_copyFrom 65 = .ok (.iload_n 2, 1) := by decide +kernel
theorem dX5_copyFrom_66 : decode cX5_copyFrom 66 = .ok (.aaload, 1) := by decide +kernel
theorem dX5_copyFrom_67 : decode cX5_copyFrom 67 = .ok (.aload_n 1, 1) := by decide +kernel
theorem dX5_copyFrom_68 : decode cX5_copyFrom 68 = .ok (.getfield 19, 3) := by decide +kernel
theorem dX5_copyFrom_71 : decode cX5_copyFrom 71 = .ok (.iload_n 2, 1) := by decide +kernel
theorem dX5_copyFrom_72 : decode cX5_copyFrom 72 = .ok (.aaload, 1) := by decide +kernel
theorem dX5_copyFrom_73 : decode cX5_copyFrom 73 = .ok (.invokevirtual 98, 3) := by decide +kernel
theorem dX5_copyFrom_76 : decode cX5_copyFrom 76 = .ok (.iinc 2 1, 3) := by decide +kernel
theorem dX5_copyFrom_79 : decode cX5_copyFrom 79 = .ok (.goto (-36), 3) := by decide +kernel
theorem dX5_copyFrom_82 : decode cX5_copyFrom 82 = .ok (.aload_n 0, 1) := by decide +kernel
theorem dX5_copyFrom_83 : decode cX5_copyFrom 83 = .ok (.getfield 26, 3) := by decide +kernel
theorem dX5_copyFrom_86 : decode cX5_copyFrom 86 = .ok (.aload_n 1, 1) := by decide +kernel
theorem dX5_copyFrom_87 : decode cX5_copyFrom 87 = .ok (.getfield 26, 3) := by decide +kernel
theorem dX5_copyFrom_90 : decode cX5_copyFrom 90 = .ok (.invokevirtual 101, 3) := by decide +kernel
theorem dX5_copyFrom_93 : decode cX5_copyFrom 93 = .ok (.aload_n 0, 1) := by decide +kernel
theorem dX5_copyFrom_94 : decode cX5_copyFrom 94 = .ok (.getfield 33, 3) := by decide +kernel
theorem dX5_copyFrom_97 : decode cX5_copyFrom 97 = .ok (.aload_n 1, 1) := by decide +kernel
theorem dX5_copyFrom_98 : decode cX5_copyFrom 98 = .ok (.getfield 33, 3) := by decide +kernel
theorem dX5_copyFrom_101 : decode cX5_copyFrom 101 = .ok (.invokevirtual 104, 3) := by decide +kernel
theorem dX5_copyFrom_104 : decode cX5_copyFrom 104 = .ok (.aload_n 0, 1) := by decide +kernel
theorem dX5_copyFrom_105 : decode cX5_copyFrom 105 = .ok (.getfield 40, 3) := by decide +kernel
theorem dX5_copyFrom_108 : decode cX5_copyFrom 108 = .ok (.aload_n 1, 1) := by decide +kernel
theorem dX5_copyFrom_109 : decode cX5_copyFrom 109 = .ok (.getfield 40, 3) := by decide +kernel
theorem dX5_copyFrom_112 : decode cX5_copyFrom 112 = .ok (.invokevirtual 107, 3) := by decide +kernel
theorem dX5_copyFrom_115 : decode cX5_copyFrom 115 = .ok (.aload_n 0, 1) := by decide +kernel
theorem dX5_copyFrom_116 : decode cX5_copyFrom 116 = .ok (.aload_n 1, 1) := by decide +kernel
theorem dX5_copyFrom_117 : decode cX5_copyFrom 117 = .ok (.getfield 46, 3) := by decide +kernel
theorem dX5_copyFrom_120 : decode cX5_copyFrom 120 = .ok (.putfield 46, 3) := by decide +kernel
theorem dX5_copyFrom_123 : decode cX5_copyFrom 123 = .ok (.aload_n 0, 1) := by decide +kernel
theorem dX5_copyFrom_124 : decode cX5_copyFrom 124 = .ok (.aload_n 1, 1) := by decide +kernel
theorem dX5_copyFrom_125 : decode cX5_copyFrom 125 = .ok (.getfield 50, 3) := by decide +kernel
theorem dX5_copyFrom_128 : decode cX5_copyFrom 128 = .ok (.putfield 50, 3) := by decide +kernel
theorem dX5_copyFrom_131 : decode cX5_copyFrom 131 = .ok (.aload_n 0, 1) := by decide +kernel
theorem dX5_copyFrom_132 : decode cX5_copyFrom 132 = .ok (.aload_n 1, 1) := by decide +kernel
theorem dX5_copyFrom_133 : decode cX5_copyFrom 133 = .ok (.getfield 67, 3) := by decide +kernel
theorem dX5_copyFrom_136 : decode cX5_copyFrom 136 = .ok (.putfield 67, 3) := by decide +kernel
theorem dX5_copyFrom_139 : decode cX5_copyFrom 139 = .ok (.aload_n 0, 1) := by decide +kernel
theorem dX5_copyFrom_140 : decode cX5_copyFrom 140 = .ok (.aload_n 1, 1) := by decide +kernel
theorem dX5_copyFrom_141 : decode cX5_copyFrom 141 = .ok (.getfield 70, 3) := by decide +kernel
theorem dX5_copyFrom_144 : decode cX5_copyFrom 144 = .ok (.putfield 70, 3) := by decide +kernel
theorem dX5_copyFrom_147 : decode cX5_copyFrom 147 = .ok (.aload_n 0, 1) := by decide +kernel
theorem dX5_copyFrom_148 : decode cX5_copyFrom 148 = .ok (.aload_n 1, 1) := by decide +kernel
theorem dX5_copyFrom_149 : decode cX5_copyFrom 149 = .ok (.getfield 73, 3) := by decide +kernel
theorem dX5_copyFrom_152 : decode cX5_copyFrom 152 = .ok (.putfield 73, 3) := by decide +kernel
theorem dX5_copyFrom_155 : decode cX5_copyFrom 155 = .ok (.aload_n 0, 1) := by decide +kernel
theorem dX5_copyFrom_156 : decode cX5_copyFrom 156 = .ok (.aload_n 1, 1) := by decide +kernel
theorem dX5_copyFrom_157 : decode cX5_copyFrom 157 = .ok (.getfield 76, 3) := by decide +kernel
theorem dX5_copyFrom_160 : decode cX5_copyFrom 160 = .ok (.putfield 76, 3) := by decide +kernel
theorem dX5_copyFrom_163 : decode cX5_copyFrom 163 = .ok (.aload_n 0, 1) := by decide +kernel
theorem dX5_copyFrom_164 : decode cX5_copyFrom 164 = .ok (.aload_n 1, 1) := by decide +kernel
theorem dX5_copyFrom_165 : decode cX5_copyFrom 165 = .ok (.getfield 79, 3) := by decide +kernel
theorem dX5_copyFrom_168 : decode cX5_copyFrom 168 = .ok (.putfield 79, 3) := by decide +kernel
theorem dX5_copyFrom_171 : decode cX5_copyFrom 171 = .ok (.return_, 1) := by decide +kernel
theorem dX5_zoneNumbered_0 : decode cX5_zoneNumbered 0 = .ok (.iload_n 1, 1) := by decide +kernel
theorem dX5_zoneNumbered_1 : decode cX5_zoneNumbered 1 = .ok (.ifCond .lt 29, 3) := by decide +kernel
theorem dX5_zoneNumbered_4 : decode cX5_zoneNumbered 4 = .ok (.iload_n 1, 1) := by decide +kernel
theorem dX5_zoneNumbered_5 : decode cX5_zoneNumbered 5 = .ok (.aload_n 0, 1) := by decide +kernel
theorem dX5_zoneNumbered_6 : decode cX5_zoneNumbered 6 = .ok (.getfield 46, 3) := by decide +kernel
theorem dX5_zoneNumbered_9 : decode cX5_zoneNumbered 9 = .ok (.if_icmp .ge 21, 3) := by decide +kernel
theorem dX5_zoneNumbered_12 : decode cX5_zoneNumbered 12 = .ok (.iload_n 1, 1) := by decide +kernel
theorem dX5_zoneNumbered_13 : decode cX5_zoneNumbered 13 = .ok (.aload_n 0, 1) := by decide +kernel
theorem dX5_zoneNumbered_14 : decode cX5_zoneNumbered 14 = .ok (.getfield 13, 3) := by decide +kernel
theorem dX5_zoneNumbered_17 : decode cX5_zoneNumbered 17 = .ok (.arraylength, 1) := by decide +kernel
theorem dX5_zoneNumbered_18 : decode cX5_zoneNumbered 18 = .ok (.if_icmp .ge 12, 3) := by decide +kernel
theorem dX5_zoneNumbered_21 : decode cX5_zoneNumbered 21 = .ok (.aload_n 0, 1) := by decide +kernel
theorem dX5_zoneNumbered_22 : decode cX5_zoneNumbered 22 = .ok (.getfield 13, 3) := by decide +kernel
theorem dX5_zoneNumbered_25 : decode cX5_zoneNumbered 25 = .ok (.iload_n 1, 1) := by decide +kernel
theorem dX5_zoneNumbered_26 : decode cX5_zoneNumbered 26 = .ok (.aaload, 1) := by decide +kernel
theorem dX5_zoneNumbered_27 : decode cX5_zoneNumbered 27 = .ok (.goto 4, 3) := by decide +kernel
theorem dX5_zoneNumbered_30 : decode cX5_zoneNumbered 30 = .ok (.aconst_null, 1) := by decide +kernel
theorem dX5_zoneNumbered_31 : decode cX5_zoneNumbered 31 = .ok (.areturn, 1) := by decide +kernel
theorem dX5_shipNumbered_0 : decode cX5_shipNumbered 0 = .ok (.iload_n 1, 1) := by decide +kernel
theorem dX5_shipNumbered_1 : decode cX5_shipNumbered 1 = .ok (.ifCond .lt 29, 3) := by decide +kernel
theorem dX5_shipNumbered_4 : decode cX5_shipNumbered 4 = .ok (.iload_n 1, 1) := by decide +kernel
theorem dX5_shipNumbered_5 : decode cX5_shipNumbered 5 = .ok (.aload_n 0, 1) := by decide +kernel
theorem dX5_shipNumbered_6 : decode cX5_shipNumbered 6 = .ok (.getfield 50, 3) := by decide +kernel
theorem dX5_shipNumbered_9 : decode cX5_shipNumbered 9 = .ok (.if_icmp .ge 21, 3) := by decide +kernel
theorem dX5_shipNumbered_12 : decode cX5_shipNumbered 12 = .ok (.iload_n 1, 1) := by decide +kernel
theorem dX5_shipNumbered_13 : decode cX5_shipNumbered 13 = .ok (.aload_n 0, 1) := by decide +kernel
theorem dX5_shipNumbered_14 : decode cX5_shipNumbered 14 = .ok (.getfield 19, 3) := by decide +kernel
theorem dX5_shipNumbered_17 : decode cX5_shipNumbered 17 = .ok (.arraylength, 1) := by decide +kernel
theorem dX5_shipNumbered_18 : decode cX5_shipNumbered 18 = .ok (.if_icmp .ge 12, 3) := by decide +kernel
theorem dX5_shipNumbered_21 : decode cX5_shipNumbered 21 = .ok (.aload_n 0, 1) := by decide +kernel
theorem dX5_shipNumbered_22 : decode cX5_shipNumbered 22 = .ok (.getfield 19, 3) := by decide +kernel
theorem dX5_shipNumbered_25 : decode cX5_shipNumbered 25 = .ok (.iload_n 1, 1) := by decide +kernel
theorem dX5_shipNumbered_26 : decode cX5_shipNumbered 26 = .ok (.aaload, 1) := by decide +kernel
theorem dX5_shipNumbered_27 : decode cX5_shipNumbered 27 = .ok (.goto 4, 3) := by decide +kernel
theorem dX5_shipNumbered_30 : decode cX5_shipNumbered 30 = .ok (.aconst_null, 1) := by decide +kernel
theorem dX5_shipNumbered_31 : decode cX5_shipNumbered 31 = .ok (.areturn, 1) := by decide +kernel
theorem dX5_isFinished_0 : decode cX5_isFinished 0 = .ok (.aload_n 0, 1) := by decide +kernel
theorem dX5_isFinished_1 : decode cX5_isFinished 1 = .ok (.getfield 73, 3) := by decide +kernel
theorem dX5_isFinished_4 : decode cX5_isFinished 4 = .ok (.aload_n 0, 1) := by decide +kernel
theorem dX5_isFinished_5 : decode cX5_isFinished 5 = .ok (.getfield 46, 3) := by decide +kernel
theorem dX5_isFinished_8 : decode cX5_isFinished 8 = .ok (.if_icmp .lt 7, 3) := by decide +kernel
theorem dX5_isFinished_11 : decode cX5_isFinished 11 = .ok (.iconst 1, 1) := by decide +kernel
theorem dX5_isFinished_12 : decode cX5_isFinished 12 = .ok (.goto 4, 3) := by decide +kernel
theorem dX5_isFinished_15 : decode cX5_isFinished 15 = .ok (.iconst 0, 1) := by decide +kernel
theorem dX5_isFinished_16 : decode cX5_isFinished 16 = .ok (.ireturn, 1) := by decide +kernel
theorem dX5_numberAtFront_0 : decode cX5_numberAtFront 0 = .ok (.iconst 0, 1) := by decide +kernel
theorem dX5_numberAtFront_1 : decode cX5_numberAtFront 1 = .ok (.istore_n 1, 1) := by decide +kernel
theorem dX5_numberAtFront_2 : decode cX5_numberAtFront 2 = .ok (.iload_n 1, 1) := by decide +kernel
theorem dX5_numberAtFront_3 : decode cX5_numberAtFront 3 = .ok (.aload_n 0, 1) := by decide +kernel
theorem dX5_numberAtFront_4 : decode cX5_numberAtFront 4 = .ok (.getfield 19, 3) := by decide +kernel
theorem dX5_numberAtFront_7 : decode cX5_numberAtFront 7 = .ok (.arraylength, 1) := by decide +kernel
theorem dX5_numberAtFront_8 : decode cX5_numberAtFront 8 = .ok (.if_icmp .ge 24, 3) := by decide +kernel
theorem dX5_numberAtFront_11 : decode cX5_numberAtFront 11 = .ok (.aload_n 0, 1) := by decide +kernel
theorem dX5_numberAtFront_12 : decode cX5_numberAtFront 12 = .ok (.getfield 19, 3) := by decide +kernel
theorem dX5_numberAtFront_15 : decode cX5_numberAtFront 15 = .ok (.iload_n 1, 1) := by decide +kernel
theorem dX5_numberAtFront_16 : decode cX5_numberAtFront 16 = .ok (.aaload, 1) := by decide +kernel
theorem dX5_numberAtFront_17 : decode cX5_numberAtFront 17 = .ok (.getfield 110, 3) := by decide +kernel
theorem dX5_numberAtFront_20 : decode cX5_numberAtFront 20 = .ok (.iconst 3, 1) := by decide +kernel
theorem dX5_numberAtFront_21 : decode cX5_numberAtFront 21 = .ok (.if_icmp .ne 5, 3) := by decide +kernel
theorem dX5_numberAtFront_24 : decode cX5_numberAtFront 24 = .ok (.iload_n 1, 1) := by decide +kernel
theorem dX5_numberAtFront_25 : decode cX5_numberAtFront 25 = .ok (.ireturn, 1) := by decide +kernel
theorem dX5_numberAtFront_26 : decode cX5_numberAtFront 26 = .ok (.iinc 1 1, 3) := by decide +kernel
theorem dX5_numberAtFront_29 : decode cX5_numberAtFront 29 = .ok (.goto (-27), 3) := by decide +kernel
theorem dX5_numberAtFront_32 : decode cX5_numberAtFront 32 = .ok (.bipush (-9), 2) := by decide +kernel
theorem dX5_numberAtFront_34 : decode cX5_numberAtFront 34 = .ok (.ireturn, 1) := by decide +kernel
theorem dX5_leftIn_0 : decode cX5_leftIn 0 = .ok (.iload_n 2, 1) := by decide +kernel
theorem dX5_leftIn_1 : decode cX5_leftIn 1 = .ok (.aload_n 0, 1) := by decide +kernel
theorem dX5_leftIn_2 : decode cX5_leftIn 2 = .ok (.getfield 73, 3) := by decide +kernel
theorem dX5_leftIn_5 : decode cX5_leftIn 5 = .ok (.if_icmp .ge 5, 3) := by decide +kernel
theorem dX5_leftIn_8 : decode cX5_leftIn 8 = .ok (.iconst 0, 1) := by decide +kernel
theorem dX5_leftIn_9 : decode cX5_leftIn 9 = .ok (.ireturn, 1) := by decide +kernel
theorem dX5_leftIn_10 : decode cX5_leftIn 10 = .ok (.iload_n 2, 1) := by decide +kernel
theorem dX5_leftIn_11 : decode cX5_leftIn 11 = .ok (.aload_n 0, 1) := by decide +kernel
theorem dX5_leftIn_12 : decode cX5_leftIn 12 = .ok (.getfield 73, 3) := by decide +kernel
theorem dX5_leftIn_15 : decode cX5_leftIn 15 = .ok (.if_icmp .ne 15, 3) := by decide +kernel
theorem dX5_leftIn_18 : decode cX5_leftIn 18 = .ok (.aload_n 1, 1) := by decide +kernel
theorem dX5_leftIn_19 : decode cX5_leftIn 19 = .ok (.getfield 82, 3) := by decide +kernel
theorem dX5_leftIn_22 : decode cX5_leftIn 22 = .ok (.aload_n 0, 1) := by decide +kernel
theorem dX5_leftIn_23 : decode cX5_leftIn 23 = .ok (.getfield 76, 3) := by decide +kernel
theorem dX5_leftIn_26 : decode cX5_leftIn 26 = .ok (.isub, 1) := by decide +kernel
theorem dX5_leftIn_27 : decode cX5_leftIn 27 = .ok (.goto 7, 3) := by decide +kernel
theorem dX5_leftIn_30 : decode cX5_leftIn 30 = .ok (.aload_n 1, 1) := by decide +kernel
theorem dX5_leftIn_31 : decode cX5_leftIn 31 = .ok (.getfield 82, 3) := by decide +kernel
theorem dX5_leftIn_34 : decode cX5_leftIn 34 = .ok (.ireturn, 1) := by decide +kernel
theorem dX5_aboardOfAll_0 : decode cX5_aboardOfAll 0 = .ok (.iconst 0, 1) := by decide +kernel
theorem dX5_aboardOfAll_1 : decode cX5_aboardOfAll 1 = .ok (.istore_n 1, 1) := by decide +kernel
theorem dX5_aboardOfAll_2 : decode cX5_aboardOfAll 2 = .ok (.aload_n 0, 1) := by decide +kernel
theorem dX5_aboardOfAll_3 : decode cX5_aboardOfAll 3 = .ok (.getfield 19, 3) := by decide +kernel
theorem dX5_aboardOfAll_6 : decode cX5_aboardOfAll 6 = .ok (.astore_n 2, 1) := by decide +kernel
theorem dX5_aboardOfAll_7 : decode cX5_aboardOfAll 7 = .ok (.aload_n 2, 1) := by decide +kernel
theorem dX5_aboardOfAll_8 : decode cX5_aboardOfAll 8 = .ok (.arraylength, 1) := by decide +kernel
theorem dX5_aboardOfAll_9 : decode cX5_aboardOfAll 9 = .ok (.istore_n 3, 1) := by decide +kernel
theorem dX5_aboardOfAll_10 : decode cX5_aboardOfAll 10 = .ok (.iconst 0, 1) := by decide +kernel
theorem dX5_aboardOfAll_11 : decode cX5_aboardOfAll 11 = .ok (.istore 4, 2) := by decide +kernel
theorem dX5_aboardOfAll_13 : decode cX5_aboardOfAll 13 = .ok (.iload 4, 2) := by decide +kernel
theorem dX5_aboardOfAll_15 : decode cX5_aboardOfAll 15 = .ok (.iload_n 3, 1) := by decide +kernel
theorem dX5_aboardOfAll_16 : decode cX5_aboardOfAll 16 = .ok (.if_icmp .ge 23, 3) := by decide +kernel
theorem dX5_aboardOfAll_19 : decode cX5_aboardOfAll 19 = .ok (.aload_n 2, 1) := by decide +kernel
theorem dX5_aboardOfAll_20 : decode cX5_aboardOfAll 20 = .ok (.iload 4, 2) := by decide +kernel
theorem dX5_aboardOfAll_22 : decode cX5_aboardOfAll 22 = .ok (.aaload, 1) := by decide +kernel
theorem dX5_aboardOfAll_23 : decode cX5_aboardOfAll 23 = .ok (.astore 5, 2) := by decide +kernel
theorem dX5_aboardOfAll_25 : decode cX5_aboardOfAll 25 = .ok (.iload_n 1, 1) := by decide +kernel
theorem dX5_aboardOfAll_26 : decode cX5_aboardOfAll 26 = .ok (.aload 5, 2) := by decide +kernel
theorem dX5_aboardOfAll_28 : decode cX5_aboardOfAll 28 = .ok (.getfield 113, 3) := by decide +kernel
theorem dX5_aboardOfAll_31 : decode cX5_aboardOfAll 31 = .ok (.iadd, 1) := by decide +kernel
theorem dX5_aboardOfAll_32 : decode cX5_aboardOfAll 32 = .ok (.istore_n 1, 1) := by decide +kernel
theorem dX5_aboardOfAll_33 : decode cX5_aboardOfAll 33 = .ok (.iinc 4 1, 3) := by decide +kernel
theorem dX5_aboardOfAll_36 : decode cX5_aboardOfAll 36 = .ok (.goto (-23), 3) := by decide +kernel
theorem dX5_aboardOfAll_39 : decode cX5_aboardOfAll 39 = .ok (.iload_n 1, 1) := by decide +kernel
theorem dX5_aboardOfAll_40 : decode cX5_aboardOfAll 40 = .ok (.ireturn, 1) := by decide +kernel
theorem dX5_canLoadOnto_0 : decode cX5_canLoadOnto 0 = .ok (.iload_n 2, 1) := by decide +kernel
theorem dX5_canLoadOnto_1 : decode cX5_canLoadOnto 1 = .ok (.iconst 1, 1) := by decide +kernel
theorem dX5_canLoadOnto_2 : decode cX5_canLoadOnto 2 = .ok (.if_icmp .lt 35, 3) := by decide +kernel
theorem dX5_canLoadOnto_5 : decode cX5_canLoadOnto 5 = .ok (.aload_n 1, 1) := by decide +kernel
theorem dX5_canLoadOnto_6 : decode cX5_canLoadOnto 6 = .ok (.getfield 110, 3) := by decide +kernel
theorem dX5_canLoadOnto_9 : decode cX5_canLoadOnto 9 = .ok (.ifCond .ne 28, 3) := by decide +kernel
theorem dX5_canLoadOnto_12 : decode cX5_canLoadOnto 12 = .ok (.iload_n 2, 1) := by decide +kernel
theorem dX5_canLoadOnto_13 : decode cX5_canLoadOnto 13 = .ok (.aload_n 0, 1) := by decide +kernel
theorem dX5_canLoadOnto_14 : decode cX5_canLoadOnto 14 = .ok (.getfield 67, 3) := by decide +kernel
theorem dX5_canLoadOnto_17 : decode cX5_canLoadOnto 17 = .ok (.if_icmp .gt 20, 3) := by decide +kernel
theorem dX5_canLoadOnto_20 : decode cX5_canLoadOnto 20 = .ok (.iload_n 2, 1) := by decide +kernel
theorem dX5_canLoadOnto_21 : decode cX5_canLoadOnto 21 = .ok (.aload_n 1, 1) := by decide +kernel
theorem dX5_canLoadOnto_22 : decode cX5_canLoadOnto 22 = .ok (.getfield 116, 3) := by decide +kernel
theorem dX5_canLoadOnto_25 : decode cX5_canLoadOnto 25 = .ok (.aload_n 1, 1) := by decide +kernel
theorem dX5_canLoadOnto_26 : decode cX5_canLoadOnto 26 = .ok (.getfield 113, 3) := by decide +kernel
theorem dX5_canLoadOnto_29 : decode cX5_canLoadOnto 29 = .ok (.isub, 1) := by decide +kernel
theorem dX5_canLoadOnto_30 : decode cX5_canLoadOnto 30 = .ok (.if_icmp .gt 7, 3) := by decide +kernel
theorem dX5_canLoadOnto_33 : decode cX5_canLoadOnto 33 = .ok (.iconst 1, 1) := by decide +kernel
theorem dX5_canLoadOnto_34 : decode cX5_canLoadOnto 34 = .ok (.goto 4, 3) := by decide +kernel
theorem dX5_canLoadOnto_37 : decode cX5_canLoadOnto 37 = .ok (.iconst 0, 1) := by decide +kernel
theorem dX5_canLoadOnto_38 : decode cX5_canLoadOnto 38 = .ok (.ireturn, 1) := by decide +kernel
theorem dX5_loadOnto_0 : decode cX5_loadOnto 0 = .ok (.aload_n 0, 1) := by decide +kernel
theorem dX5_loadOnto_1 : decode cX5_loadOnto 1 = .ok (.dup, 1) := by decide +kernel
theorem dX5_loadOnto_2 : decode cX5_loadOnto 2 = .ok (.getfield 67, 3) := by decide +kernel
theorem dX5_loadOnto_5 : decode cX5_loadOnto 5 = .ok (.iload_n 2, 1) := by decide +kernel
theorem dX5_loadOnto_6 : decode cX5_loadOnto 6 = .ok (.isub, 1) := by decide +kernel
theorem dX5_loadOnto_7 : decode cX5_loadOnto 7 = .ok (.putfield 67, 3) := by decide +kernel
theorem dX5_loadOnto_10 : decode cX5_loadOnto 10 = .ok (.aload_n 1, 1) := by decide +kernel
theorem dX5_loadOnto_11 : decode cX5_loadOnto 11 = .ok (.dup, 1) := by decide +kernel
theorem dX5_loadOnto_12 : decode cX5_loadOnto 12 = .ok (.getfield 113, 3) := by decide +kernel
theorem dX5_loadOnto_15 : decode cX5_loadOnto 15 = .ok (.iload_n 2, 1) := by decide +kernel
theorem dX5_loadOnto_16 : decode cX5_loadOnto 16 = .ok (.iadd, 1) := by decide +kernel
theorem dX5_loadOnto_17 : decode cX5_loadOnto 17 = .ok (.putfield 113, 3) := by decide +kernel
theorem dX5_loadOnto_20 : decode cX5_loadOnto 20 = .ok (.return_, 1) := by decide +kernel
theorem dX5_canSendOut_0 : decode cX5_canSendOut 0 = .ok (.aload_n 1, 1) := by decide +kernel
theorem dX5_canSendOut_1 : decode cX5_canSendOut 1 = .ok (.getfield 110, 3) := by decide +kernel
theorem dX5_canSendOut_4 : decode cX5_canSendOut 4 = .ok (.ifCond .ne 14, 3) := by decide +kernel
theorem dX5_canSendOut_7 : decode cX5_canSendOut 7 = .ok (.aload_n 0, 1) := by decide +kernel
theorem dX5_canSendOut_8 : decode cX5_canSendOut 8 = .ok (.invokevirtual 119, 3) := by decide +kernel
theorem dX5_canSendOut_11 : decode cX5_canSendOut 11 = .ok (.ifCond .ne 7, 3) := by decide +kernel
theorem dX5_canSendOut_14 : decode cX5_canSendOut 14 = .ok (.iconst 1, 1) := by decide +kernel
theorem dX5_canSendOut_15 : decode cX5_canSendOut 15 = .ok (.goto 4, 3) := by decide +kernel
theorem dX5_canSendOut_18 : decode cX5_canSendOut 18 = .ok (.iconst 0, 1) := by decide +kernel
theorem dX5_canSendOut_19 : decode cX5_canSendOut 19 = .ok (.ireturn, 1) := by decide +kernel
theorem dX5_sendOut_0 : decode cX5_sendOut 0 = .ok (.aload_n 1, 1) := by decide +kernel
theorem dX5_sendOut_1 : decode cX5_sendOut 1 = .ok (.iconst 1, 1) := by decide +kernel
theorem dX5_sendOut_2 : decode cX5_sendOut 2 = .ok (.aload_n 0, 1) := by decide +kernel
theorem dX5_sendOut_3 : decode cX5_sendOut 3 = .ok (.getfield 73, 3) := by decide +kernel
theorem dX5_sendOut_6 : decode cX5_sendOut 6 = .ok (.iconst 1, 1) := by decide +kernel
theorem dX5_sendOut_7 : decode cX5_sendOut 7 = .ok (.iadd, 1) := by decide +kernel
theorem dX5_sendOut_8 : decode cX5_sendOut 8 = .ok (.invokevirtual 123, 3) := by decide +kernel
theorem dX5_sendOut_11 : decode cX5_sendOut 11 = .ok (.return_, 1) := by decide +kernel
theorem dX5_canCallHome_0 : decode cX5_canCallHome 0 = .ok (.aload_n 1, 1) := by decide +kernel
theorem dX5_canCallHome_1 : decode cX5_canCallHome 1 = .ok (.getfield 110, 3) := by decide +kernel
theorem dX5_canCallHome_4 : decode cX5_canCallHome 4 = .ok (.iconst 2, 1) := by decide +kernel
theorem dX5_canCallHome_5 : decode cX5_canCallHome 5 = .ok (.if_icmp .eq 11, 3) := by decide +kernel
theorem dX5_canCallHome_8 : decode cX5_canCallHome 8 = .ok (.aload_n 1, 1) := by decide +kernel
theorem dX5_canCallHome_9 : decode cX5_canCallHome 9 = .ok (.getfield 110, 3) := by decide +kernel
theorem dX5_canCallHome_12 : decode cX5_canCallHome 12 = .ok (.iconst 3, 1) := by decide +kernel
theorem dX5_canCallHome_13 : decode cX5_canCallHome 13 = .ok (.if_icmp .ne 7, 3) := by decide +kernel
theorem dX5_canCallHome_16 : decode cX5_canCallHome 16 = .ok (.iconst 1, 1) := by decide +kernel
theorem dX5_canCallHome_17 : decode cX5_canCallHome 17 = .ok (.goto 4, 3) := by decide +kernel
theorem dX5_canCallHome_20 : decode cX5_canCallHome 20 = .ok (.iconst 0, 1) := by decide +kernel
theorem dX5_canCallHome_21 : decode cX5_canCallHome 21 = .ok (.ireturn, 1) := by decide +kernel
theorem dX5_callHome_0 : decode cX5_callHome 0 = .ok (.aload_n 1, 1) := by decide +kernel
theorem dX5_callHome_1 : decode cX5_callHome 1 = .ok (.getfield 110, 3) := by decide +kernel
theorem dX5_callHome_4 : decode cX5_callHome 4 = .ok (.iconst 3, 1) := by decide +kernel
theorem dX5_callHome_5 : decode cX5_callHome 5 = .ok (.if_icmp .ne 10, 3) := by decide +kernel
theorem dX5_callHome_8 : decode cX5_callHome 8 = .ok (.aload_n 0, 1) := by decide +kernel
theorem dX5_callHome_9 : decode cX5_callHome 9 = .ok (.getfield 33, 3) := by decide +kernel
theorem dX5_callHome_12 : decode cX5_callHome 12 = .ok (.invokevirtual 126, 3) := by decide +kernel
theorem dX5_callHome_15 : decode cX5_callHome 15 = .ok (.aload_n 1, 1) := by decide +kernel
theorem dX5_callHome_16 : decode cX5_callHome 16 = .ok (.iconst 4, 1) := by decide +kernel
theorem dX5_callHome_17 : decode cX5_callHome 17 = .ok (.aload_n 0, 1) := by decide +kernel
theorem dX5_callHome_18 : decode cX5_callHome 18 = .ok (.invokevirtual 119, 3) := by decide +kernel
theorem dX5_callHome_21 : decode cX5_callHome 21 = .ok (.ifCond .eq 10, 3) := by decide +kernel
theorem dX5_callHome_24 : decode cX5_callHome 24 = .ok (.aload_n 0, 1) := by decide +kernel
theorem dX5_callHome_25 : decode cX5_callHome 25 = .ok (.getfield 46, 3) := by decide +kernel
theorem dX5_callHome_28 : decode cX5_callHome 28 = .ok (.goto 9, 3) := by decide +kernel
theorem dX5_callHome_31 : decode cX5_callHome 31 = .ok (.aload_n 0, 1) := by decide +kernel
theorem dX5_callHome_32 : decode cX5_callHome 32 = .ok (.getfield 73, 3) := by decide +kernel
theorem dX5_callHome_35 : decode cX5_callHome 35 = .ok (.iconst 1, 1) := by decide +kernel
theorem dX5_callHome_36 : decode cX5_callHome 36 = .ok (.iadd, 1) := by decide +kernel
theorem dX5_callHome_37 : decode cX5_callHome 37 = .ok (.invokevirtual 123, 3) := by decide +kernel
theorem dX5_callHome_40 : decode cX5_callHome 40 = .ok (.return_, 1) := by decide +kernel
theorem dX5_canProlong_0 : decode cX5_canProlong 0 = .ok (.iload_n 2, 1) := by decide +kernel
theorem dX5_canProlong_1 : decode cX5_canProlong 1 = .ok (.iconst 1, 1) := by decide +kernel
theorem dX5_canProlong_2 : decode cX5_canProlong 2 = .ok (.if_icmp .lt 19, 3) := by decide +kernel
theorem dX5_canProlong_5 : decode cX5_canProlong 5 = .ok (.aload_n 1, 1) := by decide +kernel
theorem dX5_canProlong_6 : decode cX5_canProlong 6 = .ok (.getfield 88, 3) := by decide +kernel
theorem dX5_canProlong_9 : decode cX5_canProlong 9 = .ok (.iload_n 2, 1) := by decide +kernel
theorem dX5_canProlong_10 : decode cX5_canProlong 10 = .ok (.iadd, 1) := by decide +kernel
theorem dX5_canProlong_11 : decode cX5_canProlong 11 = .ok (.sipush 999, 3) := by decide +kernel
theorem dX5_canProlong_14 : decode cX5_canProlong 14 = .ok (.if_icmp .gt 7, 3) := by decide +kernel
theorem dX5_canProlong_17 : decode cX5_canProlong 17 = .ok (.iconst 1, 1) := by decide +kernel
theorem dX5_canProlong_18 : decode cX5_canProlong 18 = .ok (.goto 4, 3) := by decide +kernel
theorem dX5_canProlong_21 : decode cX5_canProlong 21 = .ok (.iconst 0, 1) := by decide +kernel
theorem dX5_canProlong_22 : decode cX5_canProlong 22 = .ok (.ireturn, 1) := by decide +kernel
theorem dX5_prolong_0 : decode cX5_prolong 0 = .ok (.aload_n 1, 1) := by decide +kernel
theorem dX5_prolong_1 : decode cX5_prolong 1 = .ok (.dup, 1) := by decide +kernel
theorem dX5_prolong_2 : decode cX5_prolong 2 = .ok (.getfield 88, 3) := by decide +kernel
theorem dX5_prolong_5 : decode cX5_prolong 5 = .ok (.iload_n 2, 1) := by decide +kernel
theorem dX5_prolong_6 : decode cX5_prolong 6 = .ok (.iadd, 1) := by decide +kernel
theorem dX5_prolong_7 : decode cX5_prolong 7 = .ok (.putfield 88, 3) := by decide +kernel
theorem dX5_prolong_10 : decode cX5_prolong 10 = .ok (.aload_n 0, 1) := by decide +kernel
theorem dX5_prolong_11 : decode cX5_prolong 11 = .ok (.getfield 40, 3) := by decide +kernel
theorem dX5_prolong_14 : decode cX5_prolong 14 = .ok (.dup, 1) := by decide +kernel
theorem dX5_prolong_15 : decode cX5_prolong 15 = .ok (.getfield 129, 3) := by decide +kernel
theorem dX5_prolong_18 : decode cX5_prolong 18 = .ok (.bipush 50, 2) := by decide +kernel
theorem dX5_prolong_20 : decode cX5_prolong 20 = .ok (.iload_n 2, 1) := by decide +kernel
theorem dX5_prolong_21 : decode cX5_prolong 21 = .ok (.imul, 1) := by decide +kernel
theorem dX5_prolong_22 : decode cX5_prolong 22 = .ok (.iadd, 1) := by decide +kernel
theorem dX5_prolong_23 : decode cX5_prolong 23 = .ok (.putfield 129, 3) := by decide +kernel
theorem dX5_prolong_26 : decode cX5_prolong 26 = .ok (.return_, 1) := by decide +kernel
theorem dX5_canPurchase_0 : decode cX5_canPurchase 0 = .ok (.iload_n 1, 1) := by decide +kernel
theorem dX5_canPurchase_1 : decode cX5_canPurchase 1 = .ok (.iconst 1, 1) := by decide +kernel
theorem dX5_canPurchase_2 : decode cX5_canPurchase 2 = .ok (.if_icmp .lt 19, 3) := by decide +kernel
theorem dX5_canPurchase_5 : decode cX5_canPurchase 5 = .ok (.aload_n 0, 1) := by decide +kernel
theorem dX5_canPurchase_6 : decode cX5_canPurchase 6 = .ok (.getfield 67, 3) := by decide +kernel
theorem dX5_canPurchase_9 : decode cX5_canPurchase 9 = .ok (.iload_n 1, 1) := by decide +kernel
theorem dX5_canPurchase_10 : decode cX5_canPurchase 10 = .ok (.iadd, 1) := by decide +kernel
theorem dX5_canPurchase_11 : decode cX5_canPurchase 11 = .ok (.sipush 9999, 3) := by decide +kernel
theorem dX5_canPurchase_14 : decode cX5_canPurchase 14 = .ok (.if_icmp .gt 7, 3) := by decide +kernel
theorem dX5_canPurchase_17 : decode cX5_canPurchase 17 = .ok (.iconst 1, 1) := by decide +kernel
theorem dX5_canPurchase_18 : decode cX5_canPurchase 18 = .ok (.goto 4, 3) := by decide +kernel
theorem dX5_canPurchase_21 : decode cX5_canPurchase 21 = .ok (.iconst 0, 1) := by decide +kernel
theorem dX5_canPurchase_22 : decode cX5_canPurchase 22 = .ok (.ireturn, 1) := by decide +kernel
theorem dX5_purchase_0 : decode cX5_purchase 0 = .ok (.aload_n 0, 1) := by decide +kernel
theorem dX5_purchase_1 : decode cX5_purchase 1 = .ok (.dup, 1) := by decide +kernel
theorem dX5_purchase_2 : decode cX5_purchase 2 = .ok (.getfield 67, 3) := by decide +kernel
theorem dX5_purchase_5 : decode cX5_purchase 5 = .ok (.iload_n 1, 1) := by decide +kernel
theorem dX5_purchase_6 : decode cX5_purchase 6 = .ok (.iadd, 1) := by decide +kernel
theorem dX5_purchase_7 : decode cX5_purchase 7 = .ok (.putfield 67, 3) := by decide +kernel
theorem dX5_purchase_10 : decode cX5_purchase 10 = .ok (.aload_n 0, 1) := by decide +kernel
theorem dX5_purchase_11 : decode cX5_purchase 11 = .ok (.getfield 40, 3) := by decide +kernel
theorem dX5_purchase_14 : decode cX5_purchase 14 = .ok (.dup, 1) := by decide +kernel
theorem dX5_purchase_15 : decode cX5_purchase 15 = .ok (.getfield 132, 3) := by decide +kernel
theorem dX5_purchase_18 : decode cX5_purchase 18 = .ok (.iload_n 1, 1) := by decide +kernel
theorem dX5_purchase_19 : decode cX5_purchase 19 = .ok (.iadd, 1) := by decide +kernel
theorem dX5_purchase_20 : decode cX5_purchase 20 = .ok (.putfield 132, 3) := by decide +kernel
theorem dX5_purchase_23 : decode cX5_purchase 23 = .ok (.aload_n 0, 1) := by decide +kernel
theorem dX5_purchase_24 : decode cX5_purchase 24 = .ok (.getfield 40, 3) := by decide +kernel
theorem dX5_purchase_27 : decode cX5_purchase 27 = .ok (.dup, 1) := by decide +kernel
theorem dX5_purchase_28 : decode cX5_purchase 28 = .ok (.getfield 135, 3) := by decide +kernel
theorem dX5_purchase_31 : decode cX5_purchase 31 = .ok (.iconst 3, 1) := by decide +kernel
theorem dX5_purchase_32 : decode cX5_purchase 32 = .ok (.iload_n 1, 1) := by decide +kernel
theorem dX5_purchase_33 : decode cX5_purchase 33 = .ok (.imul, 1) := by decide +kernel
theorem dX5_purchase_34 : decode cX5_purchase 34 = .ok (.iadd, 1) := by decide +kernel
theorem dX5_purchase_35 : decode cX5_purchase 35 = .ok (.putfield 135, 3) := by decide +kernel
theorem dX5_purchase_38 : decode cX5_purchase 38 = .ok (.return_, 1) := by decide +kernel
theorem dX5_fillAndSend_0 : decode cX5_fillAndSend 0 = .ok (.aload_n 0, 1) := by decide +kernel
theorem dX5_fillAndSend_1 : decode cX5_fillAndSend 1 = .ok (.iload_n 1, 1) := by decide +kernel
theorem dX5_fillAndSend_2 : decode cX5_fillAndSend 2 = .ok (.invokevirtual 138, 3) := by decide +kernel
theorem dX5_fillAndSend_5 : decode cX5_fillAndSend 5 = .ok (.astore_n 2, 1) := by decide +kernel
theorem dX5_fillAndSend_6 : decode cX5_fillAndSend 6 = .ok (.aload_n 2, 1) := by decide +kernel
theorem dX5_fillAndSend_7 : decode cX5_fillAndSend 7 = .ok (.ifnull 11, 3) := by decide +kernel
theorem dX5_fillAndSend_10 : decode cX5_fillAndSend 10 = .ok (.aload_n 0, 1) := by decide +kernel
theorem dX5_fillAndSend_11 : decode cX5_fillAndSend 11 = .ok (.aload_n 2, 1) := by decide +kernel
theorem dX5_fillAndSend_12 : decode cX5_fillAndSend 12 = .ok (.invokevirtual 142, 3) := by decide +kernel
theorem dX5_fillAndSend_15 : decode cX5_fillAndSend 15 = .ok (.ifCond .ne 5, 3) := by decide +kernel
theorem dX5_fillAndSend_18 : decode cX5_fillAndSend 18 = .ok (.iconst 0, 1) := by decide +kernel
theorem dX5_fillAndSend_19 : decode cX5_fillAndSend 19 = .ok (.ireturn, 1) := by decide +kernel
theorem dX5_fillAndSend_20 : decode cX5_fillAndSend 20 = .ok (.aload_n 0, 1) := by decide +kernel
theorem dX5_fillAndSend_21 : decode cX5_fillAndSend 21 = .ok (.aload_n 2, 1) := by decide +kernel
theorem dX5_fillAndSend_22 : decode cX5_fillAndSend 22 = .ok (.aload_n 0, 1) := by decide +kernel
theorem dX5_fillAndSend_23 : decode cX5_fillAndSend 23 = .ok (.getfield 67, 3) := by decide +kernel
theorem dX5_fillAndSend_26 : decode cX5_fillAndSend 26 = .ok (.aload_n 2, 1) := by decide +kernel
theorem dX5_fillAndSend_27 : decode cX5_fillAndSend 27 = .ok (.getfield 116, 3) := by decide +kernel
theorem dX5_fillAndSend_30 : decode cX5_fillAndSend 30 = .ok (.aload_n 2, 1) := by decide +kernel
theorem dX5_fillAndSend_31 : decode cX5_fillAndSend 31 = .ok (.getfield 113, 3) := by decide +kernel
theorem dX5_fillAndSend_34 : decode cX5_fillAndSend 34 = .ok (.isub, 1) := by decide +kernel
theorem dX5_fillAndSend_35 : decode cX5_fillAndSend 35 = .ok (.invokestatic 146, 3) := by decide +kernel
theorem dX5_fillAndSend_38 : decode cX5_fillAndSend 38 = .ok (.invokevirtual 152, 3) := by decide +kernel
theorem dX5_fillAndSend_41 : decode cX5_fillAndSend 41 = .ok (.aload_n 0, 1) := by decide +kernel
theorem dX5_fillAndSend_42 : decode cX5_fillAndSend 42 = .ok (.aload_n 2, 1) := by decide +kernel
theorem dX5_fillAndSend_43 : decode cX5_fillAndSend 43 = .ok (.invokevirtual 156, 3) := by decide +kernel
theorem dX5_fillAndSend_46 : decode cX5_fillAndSend 46 = .ok (.iconst 1, 1) := by decide +kernel
theorem dX5_fillAndSend_47 : decode cX5_fillAndSend 47 = .ok (.ireturn, 1) := by decide +kernel
theorem dX5_passDays_0 : decode cX5_passDays 0 = .ok (.iconst 0, 1) := by decide +kernel
theorem dX5_passDays_1 : decode cX5_passDays 1 = .ok (.istore_n 2, 1) := by decide +kernel
theorem dX5_passDays_2 : decode cX5_passDays 2 = .ok (.iload_n 2, 1) := by decide +kernel
theorem dX5_passDays_3 : decode cX5_passDays 3 = .ok (.iload_n 1, 1) := by decide +kernel
theorem dX5_passDays_4 : decode cX5_passDays 4 = .ok (.if_icmp .ge 13, 3) := by decide +kernel
theorem dX5_passDays_7 : decode cX5_passDays 7 = .ok (.aload_n 0, 1) := by decide +kernel
theorem dX5_passDays_8 : decode cX5_passDays 8 = .ok (.invokevirtual 159, 3) := by decide +kernel
theorem dX5_passDays_11 : decode cX5_passDays 11 = .ok (.iinc 2 1, 3) := by decide +kernel
theorem dX5_passDays_14 : decode cX5_passDays 14 = .ok (.goto (-12), 3) := by decide +kernel
theorem dX5_passDays_17 : decode cX5_passDays 17 = .ok (.return_, 1) := by decide +kernel
theorem dX5_daysUntilDone_0 : decode cX5_daysUntilDone 0 = .ok (.iconst 0, 1) := by decide +kernel
theorem dX5_daysUntilDone_1 : decode cX5_daysUntilDone 1 = .ok (.istore_n 2, 1) := by decide +kernel
theorem dX5_daysUntilDone_2 : decode cX5_daysUntilDone 2 = .ok (.iload_n 2, 1) := by decide +kernel
theorem dX5_daysUntilDone_3 : decode cX5_daysUntilDone 3 = .ok (.sipush 400, 3) := by decide +kernel
theorem dX5_daysUntilDone_6 : decode cX5_daysUntilDone 6 = .ok (.if_icmp .ge 23, 3) := by decide +kernel
theorem dX5_daysUntilDone_9 : decode cX5_daysUntilDone 9 = .ok (.aload_n 0, 1) := by decide +kernel
theorem dX5_daysUntilDone_10 : decode cX5_daysUntilDone 10 = .ok (.getfield 73, 3) := by decide +kernel
theorem dX5_daysUntilDone_13 : decode cX5_daysUntilDone 13 = .ok (.iload_n 1, 1) := by decide +kernel
theorem dX5_daysUntilDone_14 : decode cX5_daysUntilDone 14 = .ok (.if_icmp .le 5, 3) := by decide +kernel
theorem dX5_daysUntilDone_17 : decode cX5_daysUntilDone 17 = .ok (.iload_n 2, 1) := by decide +kernel
theorem dX5_daysUntilDone_18 : decode cX5_daysUntilDone 18 = .ok (.ireturn, 1) := by decide +kernel
theorem dX5_daysUntilDone_19 : decode cX5_daysUntilDone 19 = .ok (.aload_n 0, 1) := by decide +kernel
theorem dX5_daysUntilDone_20 : decode cX5_daysUntilDone 20 = .ok (.invokevirtual 159, 3) := by decide +kernel
theorem dX5_daysUntilDone_23 : decode cX5_daysUntilDone 23 = .ok (.iinc 2 1, 3) := by decide +kernel
theorem dX5_daysUntilDone_26 : decode cX5_daysUntilDone 26 = .ok (.goto (-24), 3) := by decide +kernel
theorem dX5_daysUntilDone_29 : decode cX5_daysUntilDone 29 = .ok (.aload_n 0, 1) := by decide +kernel
theorem dX5_daysUntilDone_30 : decode cX5_daysUntilDone 30 = .ok (.getfield 73, 3) := by decide +kernel
theorem dX5_daysUntilDone_33 : decode cX5_daysUntilDone 33 = .ok (.iload_n 1, 1) := by decide +kernel
theorem dX5_daysUntilDone_34 : decode cX5_daysUntilDone 34 = .ok (.if_icmp .le 9, 3) := by decide +kernel
theorem dX5_daysUntilDone_37 : decode cX5_daysUntilDone 37 = .ok (.sipush 400, 3) := by decide +kernel
theorem dX5_daysUntilDone_40 : decode cX5_daysUntilDone 40 = .ok (.goto 5, 3) := by decide +kernel
theorem dX5_daysUntilDone_43 : decode cX5_daysUntilDone 43 = .ok (.bipush (-9), 2) := by decide +kernel
theorem dX5_daysUntilDone_45 : decode cX5_daysUntilDone 45 = .ok (.ireturn, 1) := by decide +kernel
theorem dX5_playRound_0 : decode cX5_playRound 0 = .ok (.iload_n 1, 1) := by decide +kernel
theorem dX5_playRound_1 : decode cX5_playRound 1 = .ok (.ifCond .lt 20, 3) := by decide +kernel
theorem dX5_playRound_4 : decode cX5_playRound 4 = .ok (.aload_n 0, 1) := by decide +kernel
theorem dX5_playRound_5 : decode cX5_playRound 5 = .ok (.getfield 50, 3) := by decide +kernel
theorem dX5_playRound_8 : decode cX5_playRound 8 = .ok (.ifCond .le 13, 3) := by decide +kernel
theorem dX5_playRound_11 : decode cX5_playRound 11 = .ok (.aload_n 0, 1) := by decide +kernel
theorem dX5_playRound_12 : decode cX5_playRound 12 = .ok (.getfield 26, 3) := by decide +kernel
theorem dX5_playRound_15 : decode cX5_playRound 15 = .ok (.getfield 57, 3) := by decide +kernel
theorem dX5_playRound_18 : decode cX5_playRound 18 = .ok (.ifCond .gt 4, 3) := by decide +kernel
theorem dX5_playRound_21 : decode cX5_playRound 21 = .ok (.return_, 1) := by decide +kernel
theorem dX5_playRound_22 : decode cX5_playRound 22 = .ok (.iload_n 1, 1) := by decide +kernel
theorem dX5_playRound_23 : decode cX5_playRound 23 = .ok (.bipush 8, 2) := by decide +kernel
theorem dX5_playRound_25 : decode cX5_playRound 25 = .ok (.irem, 1) := by decide +kernel
theorem dX5_playRound_26 : decode cX5_playRound 26 = .ok (.istore_n 2, 1) := by decide +kernel
theorem dX5_playRound_27 : decode cX5_playRound 27 = .ok (.iload_n 2, 1) := by decide +kernel
theorem dX5_playRound_28 : decode cX5_playRound 28 = .ok (.ifCond .ne 34, 3) := by decide +kernel
theorem dX5_playRound_31 : decode cX5_playRound 31 = .ok (.aload_n 0, 1) := by decide +kernel
theorem dX5_playRound_32 : decode cX5_playRound 32 = .ok (.getfield 26, 3) := by decide +kernel
theorem dX5_playRound_35 : decode cX5_playRound 35 = .ok (.iload_n 1, 1) := by decide +kernel
theorem dX5_playRound_36 : decode cX5_playRound 36 = .ok (.bipush 64, 2) := by decide +kernel
theorem dX5_playRound_38 : decode cX5_playRound 38 = .ok (.idiv, 1) := by decide +kernel
theorem dX5_playRound_39 : decode cX5_playRound 39 = .ok (.aload_n 0, 1) := by decide +kernel
theorem dX5_playRound_40 : decode cX5_playRound 40 = .ok (.getfield 26, 3) := by decide +kernel
theorem dX5_playRound_43 : decode cX5_playRound 43 = .ok (.getfield 57, 3) := by decide +kernel
theorem dX5_playRound_46 : decode cX5_playRound 46 = .ok (.irem, 1) := by decide +kernel
theorem dX5_playRound_47 : decode cX5_playRound 47 = .ok (.iload_n 1, 1) := by decide +kernel
theorem dX5_playRound_48 : decode cX5_playRound 48 = .ok (.sipush 2048, 3) := by decide +kernel
theorem dX5_playRound_51 : decode cX5_playRound 51 = .ok (.idiv, 1) := by decide +kernel
theorem dX5_playRound_52 : decode cX5_playRound 52 = .ok (.bipush 10, 2) := by decide +kernel
theorem dX5_playRound_54 : decode cX5_playRound 54 = .ok (.irem, 1) := by decide +kernel
theorem dX5_playRound_55 : decode cX5_playRound 55 = .ok (.invokevirtual 162, 3) := by decide +kernel
theorem dX5_playRound_58 : decode cX5_playRound 58 = .ok (.pop, 1) := by decide +kernel
theorem dX5_playRound_59 : decode cX5_playRound 59 = .ok (.goto 22, 3) := by decide +kernel
theorem dX5_playRound_62 : decode cX5_playRound 62 = .ok (.iload_n 2, 1) := by decide +kernel
theorem dX5_playRound_63 : decode cX5_playRound 63 = .ok (.iconst 2, 1) := by decide +kernel
theorem dX5_playRound_64 : decode cX5_playRound 64 = .ok (.if_icmp .gt 17, 3) := by decide +kernel
theorem dX5_playRound_67 : decode cX5_playRound 67 = .ok (.aload_n 0, 1) := by decide +kernel
theorem dX5_playRound_68 : decode cX5_playRound 68 = .ok (.iload_n 1, 1) := by decide +kernel
theorem dX5_playRound_69 : decode cX5_playRound 69 = .ok (.bipush 8, 2) := by decide +kernel
theorem dX5_playRound_71 : decode cX5_playRound 71 = .ok (.idiv, 1) := by decide +kernel
theorem dX5_playRound_72 : decode cX5_playRound 72 = .ok (.aload_n 0, 1) := by decide +kernel
theorem dX5_playRound_73 : decode cX5_playRound 73 = .ok (.getfield 50, 3) := by decide +kernel
theorem dX5_playRound_76 : decode cX5_playRound 76 = .ok (.irem, 1) := by decide +kernel
theorem dX5_playRound_77 : decode cX5_playRound 77 = .ok (.invokevirtual 165, 3) := by decide +kernel
theorem dX5_playRound_80 : decode cX5_playRound 80 = .ok (.pop, 1) := by decide +kernel
theorem dX5_playRound_81 : decode cX5_playRound 81 = .ok (.aload_n 0, 1) := by decide +kernel
theorem dX5_playRound_82 : decode cX5_playRound 82 = .ok (.invokevirtual 159, 3) := by decide +kernel
theorem dX5_playRound_85 : decode cX5_playRound 85 = .ok (.return_, 1) := by decide +kernel
theorem dX5_passDay_0 : decode cX5_passDay 0 = .ok (.aload_n 0, 1) := by decide +kernel
theorem dX5_passDay_1 : decode cX5_passDay 1 = .ok (.getfield 19, 3) := by decide +kernel
theorem dX5_passDay_4 : decode cX5_passDay 4 = .ok (.astore_n 1, 1) := by decide +kernel
theorem dX5_passDay_5 : decode cX5_passDay 5 = .ok (.aload_n 1, 1) := by decide +kernel
theorem dX5_passDay_6 : decode cX5_passDay 6 = .ok (.arraylength, 1) := by decide +kernel
theorem dX5_passDay_7 : decode cX5_passDay 7 = .ok (.istore_n 2, 1) := by decide +kernel
theorem dX5_passDay_8 : decode cX5_passDay 8 = .ok (.iconst 0, 1) := by decide +kernel
theorem dX5_passDay_9 : decode cX5_passDay 9 = .ok (.istore_n 3, 1) := by decide +kernel
theorem dX5_passDay_10 : decode cX5_passDay 10 = .ok (.iload_n 3, 1) := by decide +kernel
theorem dX5_passDay_11 : decode cX5_passDay 11 = .ok (.iload_n 2, 1) := by decide +kernel
theorem dX5_passDay_12 : decode cX5_passDay 12 = .ok (.if_icmp .ge 19, 3) := by decide +kernel
theorem dX5_passDay_15 : decode cX5_passDay 15 = .ok (.aload_n 1, 1) := by decide +kernel
theorem dX5_passDay_16 : decode cX5_passDay 16 = .ok (.iload_n 3, 1) := by decide +kernel
theorem dX5_passDay_17 : decode cX5_passDay 17 = .ok (.aaload, 1) := by decide +kernel
theorem dX5_passDay_18 : decode cX5_passDay 18 = .ok (.astore 4, 2) := by decide +kernel
theorem dX5_passDay_20 : decode cX5_passDay 20 = .ok (.aload 4, 2) := by decide +kernel
theorem dX5_passDay_22 : decode cX5_passDay 22 = .ok (.invokevirtual 169, 3) := by decide +kernel
theorem dX5_passDay_25 : decode cX5_passDay 25 = .ok (.iinc 3 1, 3) := by decide +kernel
theorem dX5_passDay_28 : decode cX5_passDay 28 = .ok (.goto (-18), 3) := by decide +kernel
theorem dX5_passDay_31 : decode cX5_passDay 31 = .ok (.aload_n 0, 1) := by decide +kernel
theorem dX5_passDay_32 : decode cX5_passDay 32 = .ok (.invokevirtual 119, 3) := by decide +kernel
theorem dX5_passDay_35 : decode cX5_passDay 35 = .ok (.ifCond .eq 11, 3) := by decide +kernel
theorem dX5_passDay_38 : decode cX5_passDay 38 = .ok (.aload_n 0, 1) := by decide +kernel
theorem dX5_passDay_39 : decode cX5_passDay 39 = .ok (.iconst 0, 1) := by decide +kernel
theorem dX5_passDay_40 : decode cX5_passDay 40 = .ok (.putfield 79, 3) := by decide +kernel
theorem dX5_passDay_43 : decode cX5_passDay 43 = .ok (.goto 15, 3) := by decide +kernel
theorem dX5_passDay_46 : decode cX5_passDay 46 = .ok (.aload_n 0, 1) := by decide +kernel
theorem dX5_passDay_47 : decode cX5_passDay 47 = .ok (.invokevirtual 172, 3) := by decide +kernel
theorem dX5_passDay_50 : decode cX5_passDay 50 = .ok (.aload_n 0, 1) := by decide +kernel
theorem dX5_passDay_51 : decode cX5_passDay 51 = .ok (.aload_n 0, 1) := by decide +kernel
theorem dX5_passDay_52 : decode cX5_passDay 52 = .ok (.invokevirtual 175, 3) := by decide +kernel
theorem dX5_passDay_55 : decode cX5_passDay 55 = .ok (.putfield 79, 3) := by decide +kernel
theorem dX5_passDay_58 : decode cX5_passDay 58 = .ok (.aload_n 0, 1) := by decide +kernel
theorem dX5_passDay_59 : decode cX5_passDay 59 = .ok (.invokevirtual 179, 3) := by decide +kernel
theorem dX5_passDay_62 : decode cX5_passDay 62 = .ok (.aload_n 0, 1) := by decide +kernel
theorem dX5_passDay_63 : decode cX5_passDay 63 = .ok (.getfield 33, 3) := by decide +kernel
theorem dX5_passDay_66 : decode cX5_passDay 66 = .ok (.invokevirtual 182, 3) := by decide +kernel
theorem dX5_passDay_69 : decode cX5_passDay 69 = .ok (.aload_n 0, 1) := by decide +kernel
theorem dX5_passDay_70 : decode cX5_passDay 70 = .ok (.dup, 1) := by decide +kernel
theorem dX5_passDay_71 : decode cX5_passDay 71 = .ok (.getfield 70, 3) := by decide +kernel
theorem dX5_passDay_74 : decode cX5_passDay 74 = .ok (.iconst 1, 1) := by decide +kernel
theorem dX5_passDay_75 : decode cX5_passDay 75 = .ok (.iadd, 1) := by decide +kernel
theorem dX5_passDay_76 : decode cX5_passDay 76 = .ok (.putfield 70, 3) := by decide +kernel
theorem dX5_passDay_79 : decode cX5_passDay 79 = .ok (.return_, 1) := by decide +kernel
theorem dX5_comeToFront_0 : decode cX5_comeToFront 0 = .ok (.aload_n 0, 1) := by decide +kernel
theorem dX5_comeToFront_1 : decode cX5_comeToFront 1 = .ok (.invokevirtual 185, 3) := by decide +kernel
theorem dX5_comeToFront_4 : decode cX5_comeToFront 4 = .ok (.bipush (-9), 2) := by decide +kernel
theorem dX5_comeToFront_6 : decode cX5_comeToFront 6 = .ok (.if_icmp .eq 4, 3) := by decide +kernel
theorem dX5_comeToFront_9 : decode cX5_comeToFront 9 = .ok (.return_, 1) := by decide +kernel
theorem dX5_comeToFront_10 : decode cX5_comeToFront 10 = .ok (.aload_n 0, 1) := by decide +kernel
theorem dX5_comeToFront_11 : decode cX5_comeToFront 11 = .ok (.getfield 19, 3) := by decide +kernel
theorem dX5_comeToFront_14 : decode cX5_comeToFront 14 = .ok (.astore_n 1, 1) := by decide +kernel
theorem dX5_comeToFront_15 : decode cX5_comeToFront 15 = .ok (.aload_n 1, 1) := by decide +kernel
theorem dX5_comeToFront_16 : decode cX5_comeToFront 16 = .ok (.arraylength, 1) := by decide +kernel
theorem dX5_comeToFront_17 : decode cX5_comeToFront 17 = .ok (.istore_n 2, 1) := by decide +kernel
theorem dX5_comeToFront_18 : decode cX5_comeToFront 18 = .ok (.iconst 0, 1) := by decide +kernel
theorem dX5_comeToFront_19 : decode cX5_comeToFront 19 = .ok (.istore_n 3, 1) := by decide +kernel
theorem dX5_comeToFront_20 : decode cX5_comeToFront 20 = .ok (.iload_n 3, 1) := by decide +kernel
theorem dX5_comeToFront_21 : decode cX5_comeToFront 21 = .ok (.iload_n 2, 1) := by decide +kernel
theorem dX5_comeToFront_22 : decode cX5_comeToFront 22 = .ok (.if_icmp .ge 52, 3) := by decide +kernel
theorem dX5_comeToFront_25 : decode cX5_comeToFront 25 = .ok (.aload_n 1, 1) := by decide +kernel
theorem dX5_comeToFront_26 : decode cX5_comeToFront 26 = .ok (.iload_n 3, 1) := by decide +kernel
theorem dX5_comeToFront_27 : decode cX5_comeToFront 27 = .ok (.aaload, 1) := by decide +kernel
theorem dX5_comeToFront_28 : decode cX5_comeToFront 28 = .ok (.astore 4, 2) := by decide +kernel
theorem dX5_comeToFront_30 : decode cX5_comeToFront 30 = .ok (.aload 4, 2) := by decide +kernel
theorem dX5_comeToFront_32 : decode cX5_comeToFront 32 = .ok (.getfield 110, 3) := by decide +kernel
theorem dX5_comeToFront_35 : decode cX5_comeToFront 35 = .ok (.iconst 2, 1) := by decide +kernel
theorem dX5_comeToFront_36 : decode cX5_comeToFront 36 = .ok (.if_icmp .ne 32, 3) := by decide +kernel
theorem dX5_comeToFront_39 : decode cX5_comeToFront 39 = .ok (.aload 4, 2) := by decide +kernel
theorem dX5_comeToFront_41 : decode cX5_comeToFront 41 = .ok (.iconst 3, 1) := by decide +kernel
theorem dX5_comeToFront_42 : decode cX5_comeToFront 42 = .ok (.putfield 110, 3) := by decide +kernel
theorem dX5_comeToFront_45 : decode cX5_comeToFront 45 = .ok (.aload_n 0, 1) := by decide +kernel
theorem dX5_comeToFront_46 : decode cX5_comeToFront 46 = .ok (.getfield 33, 3) := by decide +kernel
theorem dX5_comeToFront_49 : decode cX5_comeToFront 49 = .ok (.aload_n 0, 1) := by decide +kernel
theorem dX5_comeToFront_50 : decode cX5_comeToFront 50 = .ok (.getfield 40, 3) := by decide +kernel
theorem dX5_comeToFront_53 : decode cX5_comeToFront 53 = .ok (.getfield 188, 3) := by decide +kernel
theorem dX5_comeToFront_56 : decode cX5_comeToFront 56 = .ok (.ifCond .le 7, 3) := by decide +kernel
theorem dX5_comeToFront_59 : decode cX5_comeToFront 59 = .ok (.iconst 1, 1) := by decide +kernel
theorem dX5_comeToFront_60 : decode cX5_comeToFront 60 = .ok (.goto 4, 3) := by decide +kernel
theorem dX5_comeToFront_63 : decode cX5_comeToFront 63 = .ok (.iconst 0, 1) := by decide +kernel
theorem dX5_comeToFront_64 : decode cX5_comeToFront 64 = .ok (.putfield 191, 3) := by decide +kernel
theorem dX5_comeToFront_67 : decode cX5_comeToFront 67 = .ok (.return_, 1) := by decide +kernel
theorem dX5_comeToFront_68 : decode cX5_comeToFront 68 = .ok (.iinc 3 1, 3) := by decide +kernel
theorem dX5_comeToFront_71 : decode cX5_comeToFront 71 = .ok (.goto (-51), 3) := by decide +kernel
theorem dX5_comeToFront_74 : decode cX5_comeToFront 74 = .ok (.return_, 1) := by decide +kernel
theorem dX5_workAtFront_0 : decode cX5_workAtFront 0 = .ok (.aload_n 0, 1) := by decide +kernel
theorem dX5_workAtFront_1 : decode cX5_workAtFront 1 = .ok (.aload_n 0, 1) := by decide +kernel
theorem dX5_workAtFront_2 : decode cX5_workAtFront 2 = .ok (.invokevirtual 185, 3) := by decide +kernel
theorem dX5_workAtFront_5 : decode cX5_workAtFront 5 = .ok (.invokevirtual 138, 3) := by decide +kernel
theorem dX5_workAtFront_8 : decode cX5_workAtFront 8 = .ok (.astore_n 1, 1) := by decide +kernel
theorem dX5_workAtFront_9 : decode cX5_workAtFront 9 = .ok (.aload_n 0, 1) := by decide +kernel
theorem dX5_workAtFront_10 : decode cX5_workAtFront 10 = .ok (.aload_n 0, 1) := by decide +kernel
theorem dX5_workAtFront_11 : decode cX5_workAtFront 11 = .ok (.getfield 73, 3) := by decide +kernel
theorem dX5_workAtFront_14 : decode cX5_workAtFront 14 = .ok (.invokevirtual 195, 3) := by decide +kernel
theorem dX5_workAtFront_17 : decode cX5_workAtFront 17 = .ok (.astore_n 2, 1) := by decide +kernel
theorem dX5_workAtFront_18 : decode cX5_workAtFront 18 = .ok (.aload_n 1, 1) := by decide +kernel
theorem dX5_workAtFront_19 : decode cX5_workAtFront 19 = .ok (.ifnull 7, 3) := by decide +kernel
theorem dX5_workAtFront_22 : decode cX5_workAtFront 22 = .ok (.aload_n 2, 1) := by decide +kernel
theorem dX5_workAtFront_23 : decode cX5_workAtFront 23 = .ok (.ifnonnull 6, 3) := by decide +kernel
theorem dX5_workAtFront_26 : decode cX5_workAtFront 26 = .ok (.bipush 6, 2) := by decide +kernel
theorem dX5_workAtFront_28 : decode cX5_workAtFront 28 = .ok (.ireturn, 1) := by decide +kernel
theorem dX5_workAtFront_29 : decode cX5_workAtFront 29 = .ok (.aload_n 0, 1) := by decide +kernel
theorem dX5_workAtFront_30 : decode cX5_workAtFront 30 = .ok (.getfield 33, 3) := by decide +kernel
theorem dX5_workAtFront_33 : decode cX5_workAtFront 33 = .ok (.getfield 191, 3) := by decide +kernel
theorem dX5_workAtFront_36 : decode cX5_workAtFront 36 = .ok (.ifCond .eq 26, 3) := by decide +kernel
theorem dX5_workAtFront_39 : decode cX5_workAtFront 39 = .ok (.aload_n 0, 1) := by decide +kernel
theorem dX5_workAtFront_40 : decode cX5_workAtFront 40 = .ok (.getfield 33, 3) := by decide +kernel
theorem dX5_workAtFront_43 : decode cX5_workAtFront 43 = .ok (.aload_n 0, 1) := by decide +kernel
theorem dX5_workAtFront_44 : decode cX5_workAtFront 44 = .ok (.getfield 26, 3) := by decide +kernel
theorem dX5_workAtFront_47 : decode cX5_workAtFront 47 = .ok (.aload_n 0, 1) := by decide +kernel
theorem dX5_workAtFront_48 : decode cX5_workAtFront 48 = .ok (.getfield 70, 3) := by decide +kernel
theorem dX5_workAtFront_51 : decode cX5_workAtFront 51 = .ok (.invokevirtual 199, 3) := by decide +kernel
theorem dX5_workAtFront_54 : decode cX5_workAtFront 54 = .ok (.invokevirtual 203, 3) := by decide +kernel
theorem dX5_workAtFront_57 : decode cX5_workAtFront 57 = .ok (.ifCond .ne 5, 3) := by decide +kernel
theorem dX5_workAtFront_60 : decode cX5_workAtFront 60 = .ok (.iconst 5, 1) := by decide +kernel
theorem dX5_workAtFront_61 : decode cX5_workAtFront 61 = .ok (.ireturn, 1) := by decide +kernel
theorem dX5_workAtFront_62 : decode cX5_workAtFront 62 = .ok (.aload_n 0, 1) := by decide +kernel
theorem dX5_workAtFront_63 : decode cX5_workAtFront 63 = .ok (.getfield 33, 3) := by decide +kernel
theorem dX5_workAtFront_66 : decode cX5_workAtFront 66 = .ok (.invokevirtual 206, 3) := by decide +kernel
theorem dX5_workAtFront_69 : decode cX5_workAtFront 69 = .ok (.ifCond .eq 12, 3) := by decide +kernel
theorem dX5_workAtFront_72 : decode cX5_workAtFront 72 = .ok (.aload_n 0, 1) := by decide +kernel
theorem dX5_workAtFront_73 : decode cX5_workAtFront 73 = .ok (.getfield 33, 3) := by decide +kernel
theorem dX5_workAtFront_76 : decode cX5_workAtFront 76 = .ok (.invokevirtual 209, 3) := by decide +kernel
theorem dX5_workAtFront_79 : decode cX5_workAtFront 79 = .ok (.iconst 0, 1) := by decide +kernel
theorem dX5_workAtFront_80 : decode cX5_workAtFront 80 = .ok (.ireturn, 1) := by decide +kernel
theorem dX5_workAtFront_81 : decode cX5_workAtFront 81 = .ok (.aload_n 0, 1) := by decide +kernel
theorem dX5_workAtFront_82 : decode cX5_workAtFront 82 = .ok (.getfield 70, 3) := by decide +kernel
theorem dX5_workAtFront_85 : decode cX5_workAtFront 85 = .ok (.aload_n 2, 1) := by decide +kernel
theorem dX5_workAtFront_86 : decode cX5_workAtFront 86 = .ok (.getfield 85, 3) := by decide +kernel
theorem dX5_workAtFront_89 : decode cX5_workAtFront 89 = .ok (.if_icmp .ge 5, 3) := by decide +kernel
theorem dX5_workAtFront_92 : decode cX5_workAtFront 92 = .ok (.iconst 1, 1) := by decide +kernel
theorem dX5_workAtFront_93 : decode cX5_workAtFront 93 = .ok (.ireturn, 1) := by decide +kernel
theorem dX5_workAtFront_94 : decode cX5_workAtFront 94 = .ok (.aload_n 0, 1) := by decide +kernel
theorem dX5_workAtFront_95 : decode cX5_workAtFront 95 = .ok (.getfield 70, 3) := by decide +kernel
theorem dX5_workAtFront_98 : decode cX5_workAtFront 98 = .ok (.aload_n 2, 1) := by decide +kernel
theorem dX5_workAtFront_99 : decode cX5_workAtFront 99 = .ok (.getfield 88, 3) := by decide +kernel
theorem dX5_workAtFront_102 : decode cX5_workAtFront 102 = .ok (.if_icmp .le 5, 3) := by decide +kernel
theorem dX5_workAtFront_105 : decode cX5_workAtFront 105 = .ok (.iconst 2, 1) := by decide +kernel
theorem dX5_workAtFront_106 : decode cX5_workAtFront 106 = .ok (.ireturn, 1) := by decide +kernel
theorem dX5_workAtFront_107 : decode cX5_workAtFront 107 = .ok (.aload_n 0, 1) := by decide +kernel
theorem dX5_workAtFront_108 : decode cX5_workAtFront 108 = .ok (.getfield 26, 3) := by decide +kernel
theorem dX5_workAtFront_111 : decode cX5_workAtFront 111 = .ok (.aload_n 0, 1) := by decide +kernel
theorem dX5_workAtFront_112 : decode cX5_workAtFront 112 = .ok (.getfield 70, 3) := by decide +kernel
theorem dX5_workAtFront_115 : decode cX5_workAtFront 115 = .ok (.invokevirtual 199, 3) := by decide +kernel
theorem dX5_workAtFront_118 : decode cX5_workAtFront 118 = .ok (.aload_n 1, 1) := by decide +kernel
theorem dX5_workAtFront_119 : decode cX5_workAtFront 119 = .ok (.getfield 212, 3) := by decide +kernel
theorem dX5_workAtFront_122 : decode cX5_workAtFront 122 = .ok (.if_icmp .le 5, 3) := by decide +kernel
theorem dX5_workAtFront_125 : decode cX5_workAtFront 125 = .ok (.iconst 3, 1) := by decide +kernel
theorem dX5_workAtFront_126 : decode cX5_workAtFront 126 = .ok (.ireturn, 1) := by decide +kernel
theorem dX5_workAtFront_127 : decode cX5_workAtFront 127 = .ok (.aload_n 0, 1) := by decide +kernel
theorem dX5_workAtFront_128 : decode cX5_workAtFront 128 = .ok (.aload_n 1, 1) := by decide +kernel
theorem dX5_workAtFront_129 : decode cX5_workAtFront 129 = .ok (.aload_n 2, 1) := by decide +kernel
theorem dX5_workAtFront_130 : decode cX5_workAtFront 130 = .ok (.invokevirtual 215, 3) := by decide +kernel
theorem dX5_workAtFront_133 : decode cX5_workAtFront 133 = .ok (.ireturn, 1) := by decide +kernel
theorem dX5_lay_0 : decode cX5_lay 0 = .ok (.aload_n 2, 1) := by decide +kernel
theorem dX5_lay_1 : decode cX5_lay 1 = .ok (.aload_n 1, 1) := by decide +kernel
theorem dX5_lay_2 : decode cX5_lay 2 = .ok (.getfield 219, 3) := by decide +kernel
theorem dX5_lay_5 : decode cX5_lay 5 = .ok (.aload_n 2, 1) := by decide +kernel
theorem dX5_lay_6 : decode cX5_lay 6 = .ok (.getfield 82, 3) := by decide +kernel
theorem dX5_lay_9 : decode cX5_lay 9 = .ok (.aload_n 0, 1) := by decide +kernel
theorem dX5_lay_10 : decode cX5_lay 10 = .ok (.getfield 76, 3) := by decide +kernel
theorem dX5_lay_13 : decode cX5_lay 13 = .ok (.isub, 1) := by decide +kernel
theorem dX5_lay_14 : decode cX5_lay 14 = .ok (.invokestatic 146, 3) := by decide +kernel
theorem dX5_lay_17 : decode cX5_lay 17 = .ok (.aload_n 1, 1) := by decide +kernel
theorem dX5_lay_18 : decode cX5_lay 18 = .ok (.getfield 113, 3) := by decide +kernel
theorem dX5_lay_21 : decode cX5_lay 21 = .ok (.invokevirtual 222, 3) := by decide +kernel
theorem dX5_lay_24 : decode cX5_lay 24 = .ok (.istore_n 3, 1) := by decide +kernel
theorem dX5_lay_25 : decode cX5_lay 25 = .ok (.iload_n 3, 1) := by decide +kernel
theorem dX5_lay_26 : decode cX5_lay 26 = .ok (.ifCond .gt 16, 3) := by decide +kernel
theorem dX5_lay_29 : decode cX5_lay 29 = .ok (.aload_n 1, 1) := by decide +kernel
theorem dX5_lay_30 : decode cX5_lay 30 = .ok (.iconst 4, 1) := by decide +kernel
theorem dX5_lay_31 : decode cX5_lay 31 = .ok (.aload_n 0, 1) := by decide +kernel
theorem dX5_lay_32 : decode cX5_lay 32 = .ok (.getfield 73, 3) := by decide +kernel
theorem dX5_lay_35 : decode cX5_lay 35 = .ok (.iconst 1, 1) := by decide +kernel
theorem dX5_lay_36 : decode cX5_lay 36 = .ok (.iadd, 1) := by decide +kernel
theorem dX5_lay_37 : decode cX5_lay 37 = .ok (.invokevirtual 123, 3) := by decide +kernel
theorem dX5_lay_40 : decode cX5_lay 40 = .ok (.iconst 4, 1) := by decide +kernel
theorem dX5_lay_41 : decode cX5_lay 41 = .ok (.ireturn, 1) := by decide +kernel
theorem dX5_lay_42 : decode cX5_lay 42 = .ok (.aload_n 2, 1) := by decide +kernel
theorem dX5_lay_43 : decode cX5_lay 43 = .ok (.iload_n 3, 1) := by decide +kernel
theorem dX5_lay_44 : decode cX5_lay 44 = .ok (.invokevirtual 225, 3) := by decide +kernel
theorem dX5_lay_47 : decode cX5_lay 47 = .ok (.istore 4, 2) := by decide +kernel
theorem dX5_lay_49 : decode cX5_lay 49 = .ok (.aload_n 1, 1) := by decide +kernel
theorem dX5_lay_50 : decode cX5_lay 50 = .ok (.dup, 1) := by decide +kernel
theorem dX5_lay_51 : decode cX5_lay 51 = .ok (.getfield 113, 3) := by decide +kernel
theorem dX5_lay_54 : decode cX5_lay 54 = .ok (.iload 4, 2) := by decide +kernel
theorem dX5_lay_56 : decode cX5_lay 56 = .ok (.isub, 1) := by decide +kernel
theorem dX5_lay_57 : decode cX5_lay 57 = .ok (.putfield 113, 3) := by decide +kernel
theorem dX5_lay_60 : decode cX5_lay 60 = .ok (.aload_n 1, 1) := by decide +kernel
theorem dX5_lay_61 : decode cX5_lay 61 = .ok (.dup, 1) := by decide +kernel
theorem dX5_lay_62 : decode cX5_lay 62 = .ok (.getfield 228, 3) := by decide +kernel
theorem dX5_lay_65 : decode cX5_lay 65 = .ok (.iload_n 3, 1) := by decide +kernel
theorem dX5_lay_66 : decode cX5_lay 66 = .ok (.iadd, 1) := by decide +kernel
theorem dX5_lay_67 : decode cX5_lay 67 = .ok (.putfield 228, 3) := by decide +kernel
theorem dX5_lay_70 : decode cX5_lay 70 = .ok (.aload_n 0, 1) := by decide +kernel
theorem dX5_lay_71 : decode cX5_lay 71 = .ok (.getfield 40, 3) := by decide +kernel
theorem dX5_lay_74 : decode cX5_lay 74 = .ok (.dup, 1) := by decide +kernel
theorem dX5_lay_75 : decode cX5_lay 75 = .ok (.getfield 188, 3) := by decide +kernel
theorem dX5_lay_78 : decode cX5_lay 78 = .ok (.iload_n 3, 1) := by decide +kernel
theorem dX5_lay_79 : decode cX5_lay 79 = .ok (.iadd, 1) := by decide +kernel
theorem dX5_lay_80 : decode cX5_lay 80 = .ok (.putfield 188, 3) := by decide +kernel
theorem dX5_lay_83 : decode cX5_lay 83 = .ok (.aload_n 0, 1) := by decide +kernel
theorem dX5_lay_84 : decode cX5_lay 84 = .ok (.getfield 40, 3) := by decide +kernel
theorem dX5_lay_87 : decode cX5_lay 87 = .ok (.dup, 1) := by decide +kernel
theorem dX5_lay_88 : decode cX5_lay 88 = .ok (.getfield 229, 3) := by decide +kernel
theorem dX5_lay_91 : decode cX5_lay 91 = .ok (.iload 4, 2) := by decide +kernel
theorem dX5_lay_93 : decode cX5_lay 93 = .ok (.iload_n 3, 1) := by decide +kernel
theorem dX5_lay_94 : decode cX5_lay 94 = .ok (.isub, 1) := by decide +kernel
theorem dX5_lay_95 : decode cX5_lay 95 = .ok (.iadd, 1) := by decide +kernel
theorem dX5_lay_96 : decode cX5_lay 96 = .ok (.putfield 229, 3) := by decide +kernel
theorem dX5_lay_99 : decode cX5_lay 99 = .ok (.aload_n 0, 1) := by decide +kernel
theorem dX5_lay_100 : decode cX5_lay 100 = .ok (.dup, 1) := by decide +kernel
theorem dX5_lay_101 : decode cX5_lay 101 = .ok (.getfield 76, 3) := by decide +kernel
theorem dX5_lay_104 : decode cX5_lay 104 = .ok (.iload_n 3, 1) := by decide +kernel
theorem dX5_lay_105 : decode cX5_lay 105 = .ok (.iadd, 1) := by decide +kernel
theorem dX5_lay_106 : decode cX5_lay 106 = .ok (.putfield 76, 3) := by decide +kernel
theorem dX5_lay_109 : decode cX5_lay 109 = .ok (.aload_n 0, 1) := by decide +kernel
theorem dX5_lay_110 : decode cX5_lay 110 = .ok (.getfield 76, 3) := by decide +kernel
theorem dX5_lay_113 : decode cX5_lay 113 = .ok (.aload_n 2, 1) := by decide +kernel
theorem dX5_lay_114 : decode cX5_lay 114 = .ok (.getfield 82, 3) := by decide +kernel
theorem dX5_lay_117 : decode cX5_lay 117 = .ok (.if_icmp .lt 34, 3) := by decide +kernel
theorem dX5_lay_120 : decode cX5_lay 120 = .ok (.aload_n 0, 1) := by decide +kernel
theorem dX5_lay_121 : decode cX5_lay 121 = .ok (.dup, 1) := by decide +kernel
theorem dX5_lay_122 : decode cX5_lay 122 = .ok (.getfield 73, 3) := by decide +kernel
theorem dX5_lay_125 : decode cX5_lay 125 = .ok (.iconst 1, 1) := by decide +kernel
theorem dX5_lay_126 : decode cX5_lay 126 = .ok (.iadd, 1) := by decide +kernel
theorem dX5_lay_127 : decode cX5_lay 127 = .ok (.putfield 73, 3) := by decide +kernel
theorem dX5_lay_130 : decode cX5_lay 130 = .ok (.aload_n 0, 1) := by decide +kernel
theorem dX5_lay_131 : decode cX5_lay 131 = .ok (.iconst 0, 1) := by decide +kernel
theorem dX5_lay_132 : decode cX5_lay 132 = .ok (.putfield 76, 3) := by decide +kernel
theorem dX5_lay_135 : decode cX5_lay 135 = .ok (.aload_n 0, 1) := by decide +kernel
theorem dX5_lay_136 : decode cX5_lay 136 = .ok (.invokevirtual 119, 3) := by decide +kernel
theorem dX5_lay_139 : decode cX5_lay 139 = .ok (.ifCond .eq 12, 3) := by decide +kernel
theorem dX5_lay_142 : decode cX5_lay 142 = .ok (.aload_n 1, 1) := by decide +kernel
theorem dX5_lay_143 : decode cX5_lay 143 = .ok (.iconst 4, 1) := by decide +kernel
theorem dX5_lay_144 : decode cX5_lay 144 = .ok (.aload_n 0, 1) := by decide +kernel
theorem dX5_lay_145 : decode cX5_lay 145 = .ok (.getfield 46, 3) := by decide +kernel
theorem dX5_lay_148 : decode cX5_lay 148 = .ok (.invokevirtual 123, 3) := by decide +kernel
theorem dX5_lay_151 : decode cX5_lay 151 = .ok (.iconst 0, 1) := by decide +kernel
theorem dX5_lay_152 : decode cX5_lay 152 = .ok (.ireturn, 1) := by decide +kernel
theorem dX5_bookDay_0 : decode cX5_bookDay 0 = .ok (.aload_n 0, 1) := by decide +kernel
theorem dX5_bookDay_1 : decode cX5_bookDay 1 = .ok (.getfield 79, 3) := by decide +kernel
theorem dX5_bookDay_4 : decode cX5_bookDay 4 = .ok (.iconst 1, 1) := by decide +kernel
theorem dX5_bookDay_5 : decode cX5_bookDay 5 = .ok (.if_icmp .eq 27, 3) := by decide +kernel
theorem dX5_bookDay_8 : decode cX5_bookDay 8 = .ok (.aload_n 0, 1) := by decide +kernel
theorem dX5_bookDay_9 : decode cX5_bookDay 9 = .ok (.getfield 79, 3) := by decide +kernel
theorem dX5_bookDay_12 : decode cX5_bookDay 12 = .ok (.iconst 2, 1) := by decide +kernel
theorem dX5_bookDay_13 : decode cX5_bookDay 13 = .ok (.if_icmp .eq 19, 3) := by decide +kernel
theorem dX5_bookDay_16 : decode cX5_bookDay 16 = .ok (.aload_n 0, 1) := by decide +kernel
theorem dX5_bookDay_17 : decode cX5_bookDay 17 = .ok (.getfield 79, 3) := by decide +kernel
theorem dX5_bookDay_20 : decode cX5_bookDay 20 = .ok (.iconst 3, 1) := by decide +kernel
theorem dX5_bookDay_21 : decode cX5_bookDay 21 = .ok (.if_icmp .eq 11, 3) := by decide +kernel
theorem dX5_bookDay_24 : decode cX5_bookDay 24 = .ok (.aload_n 0, 1) := by decide +kernel
theorem dX5_bookDay_25 : decode cX5_bookDay 25 = .ok (.getfield 79, 3) := by decide +kernel
theorem dX5_bookDay_28 : decode cX5_bookDay 28 = .ok (.iconst 5, 1) := by decide +kernel
theorem dX5_bookDay_29 : decode cX5_bookDay 29 = .ok (.if_icmp .ne 7, 3) := by decide +kernel
theorem dX5_bookDay_32 : decode cX5_bookDay 32 = .ok (.iconst 1, 1) := by decide +kernel
theorem dX5_bookDay_33 : decode cX5_bookDay 33 = .ok (.goto 4, 3) := by decide +kernel
theorem dX5_bookDay_36 : decode cX5_bookDay 36 = .ok (.iconst 0, 1) := by decide +kernel
theorem dX5_bookDay_37 : decode cX5_bookDay 37 = .ok (.istore_n 1, 1) := by decide +kernel
theorem dX5_bookDay_38 : decode cX5_bookDay 38 = .ok (.aload_n 0, 1) := by decide +kernel
theorem dX5_bookDay_39 : decode cX5_bookDay 39 = .ok (.getfield 19, 3) := by decide +kernel
theorem dX5_bookDay_42 : decode cX5_bookDay 42 = .ok (.astore_n 2, 1) := by decide +kernel
theorem dX5_bookDay_43 : decode cX5_bookDay 43 = .ok (.aload_n 2, 1) := by decide +kernel
theorem dX5_bookDay_44 : decode cX5_bookDay 44 = .ok (.arraylength, 1) := by decide +kernel
theorem dX5_bookDay_45 : decode cX5_bookDay 45 = .ok (.istore_n 3, 1) := by decide +kernel
theorem dX5_bookDay_46 : decode cX5_bookDay 46 = .ok (.iconst 0, 1) := by decide +kernel
theorem dX5_bookDay_47 : decode cX5_bookDay 47 = .ok (.istore 4, 2) := by decide +kernel
theorem dX5_bookDay_49 : decode cX5_bookDay 49 = .ok (.iload 4, 2) := by decide +kernel
theorem dX5_bookDay_51 : decode cX5_bookDay 51 = .ok (.iload_n 3, 1) := by decide +kernel
theorem dX5_bookDay_52 : decode cX5_bookDay 52 = .ok (.if_icmp .ge 79, 3) := by decide +kernel
theorem dX5_bookDay_55 : decode cX5_bookDay 55 = .ok (.aload_n 2, 1) := by decide +kernel
theorem dX5_bookDay_56 : decode cX5_bookDay 56 = .ok (.iload 4, 2) := by decide +kernel
theorem dX5_bookDay_58 : decode cX5_bookDay 58 = .ok (.aaload, 1) := by decide +kernel
theorem dX5_bookDay_59 : decode cX5_bookDay 59 = .ok (.astore 5, 2) := by decide +kernel
theorem dX5_bookDay_61 : decode cX5_bookDay 61 = .ok (.aload 5, 2) := by decide +kernel
theorem dX5_bookDay_63 : decode cX5_bookDay 63 = .ok (.getfield 110, 3) := by decide +kernel
theorem dX5_bookDay_66 : decode cX5_bookDay 66 = .ok (.ifCond .eq 20, 3) := by decide +kernel
theorem dX5_bookDay_69 : decode cX5_bookDay 69 = .ok (.aload_n 0, 1) := by decide +kernel
theorem dX5_bookDay_70 : decode cX5_bookDay 70 = .ok (.getfield 40, 3) := by decide +kernel
theorem dX5_bookDay_73 : decode cX5_bookDay 73 = .ok (.dup, 1) := by decide +kernel
theorem dX5_bookDay_74 : decode cX5_bookDay 74 = .ok (.getfield 232, 3) := by decide +kernel
theorem dX5_bookDay_77 : decode cX5_bookDay 77 = .ok (.aload 5, 2) := by decide +kernel
theorem dX5_bookDay_79 : decode cX5_bookDay 79 = .ok (.getfield 235, 3) := by decide +kernel
theorem dX5_bookDay_82 : decode cX5_bookDay 82 = .ok (.iadd, 1) := by decide +kernel
theorem dX5_bookDay_83 : decode cX5_bookDay 83 = .ok (.putfield 232, 3) := by decide +kernel
theorem dX5_bookDay_86 : decode cX5_bookDay 86 = .ok (.aload 5, 2) := by decide +kernel
theorem dX5_bookDay_88 : decode cX5_bookDay 88 = .ok (.getfield 110, 3) := by decide +kernel
theorem dX5_bookDay_91 : decode cX5_bookDay 91 = .ok (.iconst 2, 1) := by decide +kernel
theorem dX5_bookDay_92 : decode cX5_bookDay 92 = .ok (.if_icmp .eq 16, 3) := by decide +kernel
theorem dX5_bookDay_95 : decode cX5_bookDay 95 = .ok (.aload 5, 2) := by decide +kernel
theorem dX5_bookDay_97 : decode cX5_bookDay 97 = .ok (.getfield 110, 3) := by decide +kernel
theorem dX5_bookDay_100 : decode cX5_bookDay 100 = .ok (.iconst 3, 1) := by decide +kernel
theorem dX5_bookDay_101 : decode cX5_bookDay 101 = .ok (.if_icmp .ne 24, 3) := by decide +kernel
theorem dX5_bookDay_104 : decode cX5_bookDay 104 = .ok (.iload_n 1, 1) := by decide +kernel
theorem dX5_bookDay_105 : decode cX5_bookDay 105 = .ok (.ifCond .eq 20, 3) := by decide +kernel
theorem dX5_bookDay_108 : decode cX5_bookDay 108 = .ok (.aload_n 0, 1) := by decide +kernel
theorem dX5_bookDay_109 : decode cX5_bookDay 109 = .ok (.getfield 40, 3) := by decide +kernel
theorem dX5_bookDay_112 : decode cX5_bookDay 112 = .ok (.dup, 1) := by decide +kernel
theorem dX5_bookDay_113 : decode cX5_bookDay 113 = .ok (.getfield 238, 3) := by decide +kernel
theorem dX5_bookDay_116 : decode cX5_bookDay 116 = .ok (.aload 5, 2) := by decide +kernel
theorem dX5_bookDay_118 : decode cX5_bookDay 118 = .ok (.getfield 235, 3) := by decide +kernel
theorem dX5_bookDay_121 : decode cX5_bookDay 121 = .ok (.iadd, 1) := by decide +kernel
theorem dX5_bookDay_122 : decode cX5_bookDay 122 = .ok (.putfield 238, 3) := by decide +kernel
theorem dX5_bookDay_125 : decode cX5_bookDay 125 = .ok (.iinc 4 1, 3) := by decide +kernel
theorem dX5_bookDay_128 : decode cX5_bookDay 128 = .ok (.goto (-79), 3) := by decide +kernel
theorem dX5_bookDay_131 : decode cX5_bookDay 131 = .ok (.return_, 1) := by decide +kernel
theorem dX6_init_0 : decode cX6_init 0 = .ok (.aload_n 0, 1) := by decide +kernel
theorem dX6_init_1 : decode cX6_init 1 = .ok (.invokespecial 3, 3) := by decide +kernel
theorem dX6_init_4 : decode cX6_init 4 = .ok (.aload_n 0, 1) := by decide +kernel
theorem dX6_init_5 : decode cX6_init 5 = .ok (.iconst 3, 1) := by decide +kernel
theorem dX6_init_6 : decode cX6_init 6 = .ok (.newarray .int, 2) := by decide +kernel
theorem dX6_init_8 : decode cX6_init 8 = .ok (.putfield 11, 3) := by decide +kernel
theorem dX6_init_11 : decode cX6_init 11 = .ok (.aload_n 0, 1) := by decide +kernel
theorem dX6_init_12 : decode cX6_init 12 = .ok (.bipush (-9), 2) := by decide +kernel
theorem dX6_init_14 : decode cX6_init 14 = .ok (.putfield 15, 3) := by decide +kernel
theorem dX6_init_17 : decode cX6_init 17 = .ok (.return_, 1) := by decide +kernel
theorem dX6_begin_0 : decode cX6_begin 0 = .ok (.aload_n 0, 1) := by decide +kernel
theorem dX6_begin_1 : decode cX6_begin 1 = .ok (.iload_n 1, 1) := by decide +kernel
theorem dX6_begin_2 : decode cX6_begin 2 = .ok (.putfield 19, 3) := by decide +kernel
theorem dX6_begin_5 : decode cX6_begin 5 = .ok (.aload_n 0, 1) := by decide +kernel
theorem dX6_begin_6 : decode cX6_begin 6 = .ok (.iload_n 2, 1) := by decide +kernel
theorem dX6_begin_7 : decode cX6_begin 7 = .ok (.putfield 22, 3) := by decide +kernel
theorem dX6_begin_10 : decode cX6_begin 10 = .ok (.iconst 0, 1) := by decide +kernel
theorem dX6_begin_11 : decode cX6_begin 11 = .ok (.istore_n 3, 1) := by decide +kernel
theorem dX6_begin_12 : decode cX6_begin 12 = .ok (.iload_n 3, 1) := by decide +kernel
theorem dX6_begin_13 : decode cX6_begin 13 = .ok (.aload_n 0, 1) := by decide +kernel
theorem dX6_begin_14 : decode cX6_begin 14 = .ok (.getfield 11, 3) := by decide +kernel
theorem dX6_begin_17 : decode cX6_begin 17 = .ok (.arraylength, 1) := by decide +kernel
theorem dX6_begin_18 : decode cX6_begin 18 = .ok (.if_icmp .ge 16, 3) := by decide +kernel
theorem dX6_begin_21 : decode cX6_begin 21 = .ok (.aload_n 0, 1) := by decide +kernel
theorem dX6_begin_22 : decode cX6_begin 22 = .ok (.getfield 11, 3) := by decide +kernel
theorem dX6_begin_25 : decode cX6_begin 25 = .ok (.iload_n 3, 1) := by decide +kernel
theorem dX6_begin_26 : decode cX6_begin 26 = .ok (.iconst 0, 1) := by decide +kernel
theorem dX6_begin_27 : decode cX6_begin 27 = .ok (.iastore, 1) := by decide +kernel
theorem dX6_begin_28 : decode cX6_begin 28 = .ok (.iinc 3 1, 3) := by decide +kernel
theorem dX6_begin_31 : decode cX6_begin 31 = .ok (.goto (-19), 3) := by decide +kernel
theorem dX6_begin_34 : decode cX6_begin 34 = .ok (.aload_n 0, 1) := by decide +kernel
theorem dX6_begin_35 : decode cX6_begin 35 = .ok (.iconst 0, 1) := by decide +kernel
theorem dX6_begin_36 : decode cX6_begin 36 = .ok (.putfield 25, 3) := by decide +kernel
theorem dX6_begin_39 : decode cX6_begin 39 = .ok (.aload_n 0, 1) := by decide +kernel
theorem dX6_begin_40 : decode cX6_begin 40 = .ok (.bipush (-9), 2) := by decide +kernel
theorem dX6_begin_42 : decode cX6_begin 42 = .ok (.putfield 15, 3) := by decide +kernel
theorem dX6_begin_45 : decode cX6_begin 45 = .ok (.aload_n 0, 1) := by decide +kernel
theorem dX6_begin_46 : decode cX6_begin 46 = .ok (.iconst 0, 1) := by decide +kernel
theorem dX6_begin_47 : decode cX6_begin 47 = .ok (.putfield 29, 3) := by decide +kernel
theorem dX6_begin_50 : decode cX6_begin 50 = .ok (.aload_n 0, 1) := by decide +kernel
theorem dX6_begin_51 : decode cX6_begin 51 = .ok (.iconst 0, 1) := by decide +kernel
theorem dX6_begin_52 : decode cX6_begin 52 = .ok (.putfield 32, 3) := by decide +kernel
theorem dX6_begin_55 : decode cX6_begin 55 = .ok (.return_, 1) := by decide +kernel
theorem dX6_copyFrom_0 : decode cX6_copyFrom 0 = .ok (.aload_n 0, 1) := by decide +kernel
theorem dX6_copyFrom_1 : decode cX6_copyFrom 1 = .ok (.aload_n 1, 1) := by decide +kernel
theorem dX6_copyFrom_2 : decode cX6_copyFrom 2 = .ok (.getfield 19, 3) := by decide +kernel
theorem dX6_copyFrom_5 : decode cX6_copyFrom 5 = .ok (.putfield 19, 3) := by decide +kernel
theorem dX6_copyFrom_8 : decode cX6_copyFrom 8 = .ok (.aload_n 0, 1) := by decide +kernel
theorem dX6_copyFrom_9 : decode cX6_copyFrom 9 = .ok (.aload_n 1, 1) := by decide +kernel
theorem dX6_copyFrom_10 : decode cX6_copyFrom 10 = .ok (.getfield 22, 3) := by decide +kernel
theorem dX6_copyFrom_13 : decode cX6_copyFrom 13 = .ok (.putfield 22, 3) := by decide +kernel
theorem dX6_copyFrom_16 : decode cX6_copyFrom 16 = .ok (.iconst 0, 1) := by decide +kernel
theorem dX6_copyFrom_17 : decode cX6_copyFrom 17 = .ok (.istore_n 2, 1) := by decide +kernel
theorem dX6_copyFrom_18 : decode cX6_copyFrom 18 = .ok (.iload_n 2, 1) := by decide +kernel
theorem dX6_copyFrom_19 : decode cX6_copyFrom 19 = .ok (.aload_n 0, 1) := by decide +kernel
theorem dX6_copyFrom_20 : decode cX6_copyFrom 20 = .ok (.getfield 11, 3) := by decide +kernel
theorem dX6_copyFrom_23 : decode cX6_copyFrom 23 = .ok (.arraylength, 1) := by decide +kernel
theorem dX6_copyFrom_24 : decode cX6_copyFrom 24 = .ok (.if_icmp .ge 30, 3) := by decide +kernel
theorem dX6_copyFrom_27 : decode cX6_copyFrom 27 = .ok (.iload_n 2, 1) := by decide +kernel
theorem dX6_copyFrom_28 : decode cX6_copyFrom 28 = .ok (.aload_n 1, 1) := by decide +kernel
theorem dX6_copyFrom_29 : decode cX6_copyFrom 29 = .ok (.getfield 11, 3) := by decide +kernel
theorem dX6_copyFrom_32 : decode cX6_copyFrom 32 = .ok (.arraylength, 1) := by decide +kernel
theorem dX6_copyFrom_33 : decode cX6_copyFrom 33 = .ok (.if_icmp .ge 21, 3) := by decide +kernel
theorem dX6_copyFrom_36 : decode cX6_copyFrom 36 = .ok (.aload_n 0, 1) := by decide +kernel
theorem dX6_copyFrom_37 : decode cX6_copyFrom 37 = .ok (.getfield 11, 3) := by decide +kernel
theorem dX6_copyFrom_40 : decode cX6_copyFrom 40 = .ok (.iload_n 2, 1) := by decide +kernel
theorem dX6_copyFrom_41 : decode cX6_copyFrom 41 = .ok (.aload_n 1, 1) := by decide +kernel
theorem dX6_copyFrom_42 : decode cX6_copyFrom 42 = .ok (.getfield 11, 3) := by decide +kernel
theorem dX6_copyFrom_45 : decode cX6_copyFrom 45 = .ok (.iload_n 2, 1) := by decide +kernel
theorem dX6_copyFrom_46 : decode cX6_copyFrom 46 = .ok (.iaload, 1) := by decide +kernel
theorem dX6_copyFrom_47 : decode cX6_copyFrom 47 = .ok (.iastore, 1) := by decide +kernel
theorem dX6_copyFrom_48 : decode cX6_copyFrom 48 = .ok (.iinc 2 1, 3) := by decide +kernel
theorem dX6_copyFrom_51 : decode cX6_copyFrom 51 = .ok (.goto (-33), 3) := by decide +kernel
theorem dX6_copyFrom_54 : decode cX6_copyFrom 54 = .ok (.aload_n 0, 1) := by decide +kernel
theorem dX6_copyFrom_55 : decode cX6_copyFrom 55 = .ok (.aload_n 1, 1) := by decide +kernel
theorem dX6_copyFrom_56 : decode cX6_copyFrom 56 = .ok (.getfield 25, 3) := by decide +kernel
theorem dX6_copyFrom_59 : decode cX6_copyFrom 59 = .ok (.putfield 25, 3) := by decide +kernel
theorem dX6_copyFrom_62 : decode cX6_copyFrom 62 = .ok (.aload_n 0, 1) := by decide +kernel
theorem dX6_copyFrom_63 : decode cX6_copyFrom 63 = .ok (.aload_n 1, 1) := by decide +kernel
theorem dX6_copyFrom_64 : decode cX6_copyFrom 64 = .ok (.getfield 15, 3) := by decide +kernel
theorem dX6_copyFrom_67 : decode cX6_copyFrom 67 = .ok (.putfield 15, 3) := by decide +kernel
theorem dX6_copyFrom_70 : decode cX6_copyFrom 70 = .ok (.aload_n 0, 1) := by decide +kernel
theorem dX6_copyFrom_71 : decode cX6_copyFrom 71 = .ok (.aload_n 1, 1) := by decide +kernel
theorem dX6_copyFrom_72 : decode cX6_copyFrom 72 = .ok (.getfield 29, 3) := by decide +kernel
theorem dX6_copyFrom_75 : decode cX6_copyFrom 75 = .ok (.putfield 29, 3) := by decide +kernel
theorem dX6_copyFrom_78 : decode cX6_copyFrom 78 = .ok (.aload_n 0, 1) := by decide +kernel
theorem dX6_copyFrom_79 : decode cX6_copyFrom 79 = .ok (.aload_n 1, 1) := by decide +kernel
theorem dX6_copyFrom_80 : decode cX6_copyFrom 80 = .ok (.getfield 32, 3) := by decide +kernel
theorem dX6_copyFrom_83 : decode cX6_copyFrom 83 = .ok (.putfield 32, 3) := by decide +kernel
theorem dX6_copyFrom_86 : decode cX6_copyFrom 86 = .ok (.return_, 1) := by decide +kernel
theorem dX6_spliceGoesOn_0 : decode cX6_spliceGoesOn 0 = .ok (.aload_n 0, 1) := by decide +kernel
theorem dX6_spliceGoesOn_1 : decode cX6_spliceGoesOn 1 = .ok (.getfield 15, 3) := by decide +kernel
theorem dX6_spliceGoesOn_4 : decode cX6_spliceGoesOn 4 = .ok (.bipush (-9), 2) := by decide +kernel
theorem dX6_spliceGoesOn_6 : decode cX6_spliceGoesOn 6 = .ok (.if_icmp .eq 7, 3) := by decide +kernel
theorem dX6_spliceGoesOn_9 : decode cX6_spliceGoesOn 9 = .ok (.iconst 1, 1) := by decide +kernel
theorem dX6_spliceGoesOn_10 : decode cX6_spliceGoesOn 10 = .ok (.goto 4, 3) := by decide +kernel
theorem dX6_spliceGoesOn_13 : decode cX6_spliceGoesOn 13 = .ok (.iconst 0, 1) := by decide +kernel
theorem dX6_spliceGoesOn_14 : decode cX6_spliceGoesOn 14 = .ok (.ireturn, 1) := by decide +kernel
theorem dX6_stageOfSplice_0 : decode cX6_stageOfSplice 0 = .ok (.aload_n 0, 1) := by decide +kernel
theorem dX6_stageOfSplice_1 : decode cX6_stageOfSplice 1 = .ok (.getfield 25, 3) := by decide +kernel
theorem dX6_stageOfSplice_4 : decode cX6_stageOfSplice 4 = .ok (.ifCond .eq 5, 3) := by decide +kernel
theorem dX6_stageOfSplice_7 : decode cX6_stageOfSplice 7 = .ok (.iconst 1, 1) := by decide +kernel
theorem dX6_stageOfSplice_8 : decode cX6_stageOfSplice 8 = .ok (.ireturn, 1) := by decide +kernel
theorem dX6_stageOfSplice_9 : decode cX6_stageOfSplice 9 = .ok (.aload_n 0, 1) := by decide +kernel
theorem dX6_stageOfSplice_10 : decode cX6_stageOfSplice 10 = .ok (.invokevirtual 35, 3) := by decide +kernel
theorem dX6_stageOfSplice_13 : decode cX6_stageOfSplice 13 = .ok (.ifCond .eq 7, 3) := by decide +kernel
theorem dX6_stageOfSplice_16 : decode cX6_stageOfSplice 16 = .ok (.iconst 2, 1) := by decide +kernel
theorem dX6_stageOfSplice_17 : decode cX6_stageOfSplice 17 = .ok (.goto 4, 3) := by decide +kernel
theorem dX6_stageOfSplice_20 : decode cX6_stageOfSplice 20 = .ok (.iconst 0, 1) := by decide +kernel
theorem dX6_stageOfSplice_21 : decode cX6_stageOfSplice 21 = .ok (.ireturn, 1) := by decide +kernel
theorem dX6_isFree_0 : decode cX6_isFree 0 = .ok (.iload_n 1, 1) := by decide +kernel
theorem dX6_isFree_1 : decode cX6_isFree 1 = .ok (.ifCond .lt 41, 3) := by decide +kernel
theorem dX6_isFree_4 : decode cX6_isFree 4 = .ok (.iload_n 1, 1) := by decide +kernel
theorem dX6_isFree_5 : decode cX6_isFree 5 = .ok (.aload_n 0, 1) := by decide +kernel
theorem dX6_isFree_6 : decode cX6_isFree 6 = .ok (.getfield 19, 3) := by decide +kernel
theorem dX6_isFree_9 : decode cX6_isFree 9 = .ok (.if_icmp .ge 33, 3) := by decide +kernel
theorem dX6_isFree_12 : decode cX6_isFree 12 = .ok (.iload_n 1, 1) := by decide +kernel
theorem dX6_isFree_13 : decode cX6_isFree 13 = .ok (.aload_n 0, 1) := by decide +kernel
theorem dX6_isFree_14 : decode cX6_isFree 14 = .ok (.getfield 11, 3) := by decide +kernel
theorem dX6_isFree_17 : decode cX6_isFree 17 = .ok (.arraylength, 1) := by decide +kernel
theorem dX6_isFree_18 : decode cX6_isFree 18 = .ok (.if_icmp .ge 24, 3) := by decide +kernel
theorem dX6_isFree_21 : decode cX6_isFree 21 = .ok (.iload_n 1, 1) := by decide +kernel
theorem dX6_isFree_22 : decode cX6_isFree 22 = .ok (.aload_n 0, 1) := by decide +kernel
theorem dX6_isFree_23 : decode cX6_isFree 23 = .ok (.getfield 15, 3) := by decide +kernel
theorem dX6_isFree_26 : decode cX6_isFree 26 = .ok (.if_icmp .eq 16, 3) := by decide +kernel
theorem dX6_isFree_29 : decode cX6_isFree 29 = .ok (.aload_n 0, 1) := by decide +kernel
theorem dX6_isFree_30 : decode cX6_isFree 30 = .ok (.getfield 11, 3) := by decide +kernel
theorem dX6_isFree_33 : decode cX6_isFree 33 = .ok (.iload_n 1, 1) := by decide +kernel
theorem dX6_isFree_34 : decode cX6_isFree 34 = .ok (.iaload, 1) := by decide +kernel
theorem dX6_isFree_35 : decode cX6_isFree 35 = .ok (.ifCond .ne 7, 3) := by decide +kernel
theorem dX6_isFree_38 : decode cX6_isFree 38 = .ok (.iconst 1, 1) := by decide +kernel
theorem dX6_isFree_39 : decode cX6_isFree 39 = .ok (.goto 4, 3) := by decide +kernel
theorem dX6_isFree_42 : decode cX6_isFree 42 = .ok (.iconst 0, 1) := by decide +kernel
theorem dX6_isFree_43 : decode cX6_isFree 43 = .ok (.ireturn, 1) := by decide +kernel
theorem dX6_freeTeams_0 : decode cX6_freeTeams 0 = .ok (.iconst 0, 1) := by decide +kernel
theorem dX6_freeTeams_1 : decode cX6_freeTeams 1 = .ok (.istore_n 1, 1) := by decide +kernel
theorem dX6_freeTeams_2 : decode cX6_freeTeams 2 = .ok (.iconst 0, 1) := by decide +kernel
theorem dX6_freeTeams_3 : decode cX6_freeTeams 3 = .ok (.istore_n 2, 1) := by decide +kernel
theorem dX6_freeTeams_4 : decode cX6_freeTeams 4 = .ok (.iload_n 2, 1) := by decide +kernel
theorem dX6_freeTeams_5 : decode cX6_freeTeams 5 = .ok (.aload_n 0, 1) := by decide +kernel
theorem dX6_freeTeams_6 : decode cX6_freeTeams 6 = .ok (.getfield 11, 3) := by decide +kernel
theorem dX6_freeTeams_9 : decode cX6_freeTeams 9 = .ok (.arraylength, 1) := by decide +kernel
theorem dX6_freeTeams_10 : decode cX6_freeTeams 10 = .ok (.if_icmp .ge 20, 3) := by decide +kernel
theorem dX6_freeTeams_13 : decode cX6_freeTeams 13 = .ok (.aload_n 0, 1) := by decide +kernel
theorem dX6_freeTeams_14 : decode cX6_freeTeams 14 = .ok (.iload_n 2, 1) := by decide +kernel
theorem dX6_freeTeams_15 : decode cX6_freeTeams 15 = .ok (.invokevirtual 39, 3) := by decide +kernel
theorem dX6_freeTeams_18 : decode cX6_freeTeams 18 = .ok (.ifCond .eq 6, 3) := by decide +kernel
theorem dX6_freeTeams_21 : decode cX6_freeTeams 21 = .ok (.iinc 1 1, 3) := by decide +kernel
theorem dX6_freeTeams_24 : decode cX6_freeTeams 24 = .ok (.iinc 2 1, 3) := by decide +kernel
theorem dX6_freeTeams_27 : decode cX6_freeTeams 27 = .ok (.goto (-23), 3) := by decide +kernel
theorem dX6_freeTeams_30 : decode cX6_freeTeams 30 = .ok (.iload_n 1, 1) := by decide +kernel
theorem dX6_freeTeams_31 : decode cX6_freeTeams 31 = .ok (.ireturn, 1) := by decide +kernel
theorem dX6_beginSplice_0 : decode cX6_beginSplice 0 = .ok (.iconst 0, 1) := by decide +kernel
theorem dX6_beginSplice_1 : decode cX6_beginSplice 1 = .ok (.istore_n 2, 1) := by decide +kernel
theorem dX6_beginSplice_2 : decode cX6_beginSplice 2 = .ok (.iload_n 2, 1) := by decide +kernel
theorem dX6_beginSplice_3 : decode cX6_beginSplice 3 = .ok (.aload_n 0, 1) := by decide +kernel
theorem dX6_beginSplice_4 : decode cX6_beginSplice 4 = .ok (.getfield 11, 3) := by decide +kernel
theorem dX6_beginSplice_7 : decode cX6_beginSplice 7 = .ok (.arraylength, 1) := by decide +kernel
theorem dX6_beginSplice_8 : decode cX6_beginSplice 8 = .ok (.if_icmp .ge 42, 3) := by decide +kernel
theorem dX6_beginSplice_11 : decode cX6_beginSplice 11 = .ok (.iload_n 1, 1) := by decide +kernel
theorem dX6_beginSplice_12 : decode cX6_beginSplice 12 = .ok (.iconst 3, 1) := by decide +kernel
theorem dX6_beginSplice_13 : decode cX6_beginSplice 13 = .ok (.if_icmp .gt 37, 3) := by decide +kernel
theorem dX6_beginSplice_16 : decode cX6_beginSplice 16 = .ok (.aload_n 0, 1) := by decide +kernel
theorem dX6_beginSplice_17 : decode cX6_beginSplice 17 = .ok (.iload_n 2, 1) := by decide +kernel
theorem dX6_beginSplice_18 : decode cX6_beginSplice 18 = .ok (.invokevirtual 39, 3) := by decide +kernel
theorem dX6_beginSplice_21 : decode cX6_beginSplice 21 = .ok (.ifCond .eq 23, 3) := by decide +kernel
theorem dX6_beginSplice_24 : decode cX6_beginSplice 24 = .ok (.aload_n 0, 1) := by decide +kernel
theorem dX6_beginSplice_25 : decode cX6_beginSplice 25 = .ok (.iconst 0, 1) := by decide +kernel
theorem dX6_beginSplice_26 : decode cX6_beginSplice 26 = .ok (.putfield 25, 3) := by decide +kernel
theorem dX6_beginSplice_29 : decode cX6_beginSplice 29 = .ok (.aload_n 0, 1) := by decide +kernel
theorem dX6_beginSplice_30 : decode cX6_beginSplice 30 = .ok (.iload_n 2, 1) := by decide +kernel
theorem dX6_beginSplice_31 : decode cX6_beginSplice 31 = .ok (.putfield 15, 3) := by decide +kernel
theorem dX6_beginSplice_34 : decode cX6_beginSplice 34 = .ok (.aload_n 0, 1) := by decide +kernel
theorem dX6_beginSplice_35 : decode cX6_beginSplice 35 = .ok (.aload_n 0, 1) := by decide +kernel
theorem dX6_beginSplice_36 : decode cX6_beginSplice 36 = .ok (.getfield 22, 3) := by decide +kernel
theorem dX6_beginSplice_39 : decode cX6_beginSplice 39 = .ok (.putfield 29, 3) := by decide +kernel
theorem dX6_beginSplice_42 : decode cX6_beginSplice 42 = .ok (.iconst 1, 1) := by decide +kernel
theorem dX6_beginSplice_43 : decode cX6_beginSplice 43 = .ok (.ireturn, 1) := by decide +kernel
theorem dX6_beginSplice_44 : decode cX6_beginSplice 44 = .ok (.iinc 2 1, 3) := by decide +kernel
theorem dX6_beginSplice_47 : decode cX6_beginSplice 47 = .ok (.goto (-45), 3) := by decide +kernel
theorem dX6_beginSplice_50 : decode cX6_beginSplice 50 = .ok (.iconst 0, 1) := by decide +kernel
theorem dX6_beginSplice_51 : decode cX6_beginSplice 51 = .ok (.ireturn, 1) := by decide +kernel
theorem dX6_workOnSplice_0 : decode cX6_workOnSplice 0 = .ok (.aload_n 0, 1) := by decide +kernel
theorem dX6_workOnSplice_1 : decode cX6_workOnSplice 1 = .ok (.dup, 1) := by decide +kernel
theorem dX6_workOnSplice_2 : decode cX6_workOnSplice 2 = .ok (.getfield 29, 3) := by decide +kernel
theorem dX6_workOnSplice_5 : decode cX6_workOnSplice 5 = .ok (.iconst 1, 1) := by decide +kernel
theorem dX6_workOnSplice_6 : decode cX6_workOnSplice 6 = .ok (.isub, 1) := by decide +kernel
theorem dX6_workOnSplice_7 : decode cX6_workOnSplice 7 = .ok (.putfield 29, 3) := by decide +kernel
theorem dX6_workOnSplice_10 : decode cX6_workOnSplice 10 = .ok (.aload_n 0, 1) := by decide +kernel
theorem dX6_workOnSplice_11 : decode cX6_workOnSplice 11 = .ok (.getfield 29, 3) := by decide +kernel
theorem dX6_workOnSplice_14 : decode cX6_workOnSplice 14 = .ok (.ifCond .gt 18, 3) := by decide +kernel
theorem dX6_workOnSplice_17 : decode cX6_workOnSplice 17 = .ok (.aload_n 0, 1) := by decide +kernel
theorem dX6_workOnSplice_18 : decode cX6_workOnSplice 18 = .ok (.dup, 1) := by decide +kernel
theorem dX6_workOnSplice_19 : decode cX6_workOnSplice 19 = .ok (.getfield 32, 3) := by decide +kernel
theorem dX6_workOnSplice_22 : decode cX6_workOnSplice 22 = .ok (.iconst 1, 1) := by decide +kernel
theorem dX6_workOnSplice_23 : decode cX6_workOnSplice 23 = .ok (.iadd, 1) := by decide +kernel
theorem dX6_workOnSplice_24 : decode cX6_workOnSplice 24 = .ok (.putfield 32, 3) := by decide +kernel
theorem dX6_workOnSplice_27 : decode cX6_workOnSplice 27 = .ok (.aload_n 0, 1) := by decide +kernel
theorem dX6_workOnSplice_28 : decode cX6_workOnSplice 28 = .ok (.iconst 3, 1) := by decide +kernel
theorem dX6_workOnSplice_29 : decode cX6_workOnSplice 29 = .ok (.invokevirtual 43, 3) := by decide +kernel
theorem dX6_workOnSplice_32 : decode cX6_workOnSplice 32 = .ok (.return_, 1) := by decide +kernel
theorem dX6_leaveFront_0 : decode cX6_leaveFront 0 = .ok (.aload_n 0, 1) := by decide +kernel
theorem dX6_leaveFront_1 : decode cX6_leaveFront 1 = .ok (.iconst 0, 1) := by decide +kernel
theorem dX6_leaveFront_2 : decode cX6_leaveFront 2 = .ok (.putfield 25, 3) := by decide +kernel
theorem dX6_leaveFront_5 : decode cX6_leaveFront 5 = .ok (.aload_n 0, 1) := by decide +kernel
theorem dX6_leaveFront_6 : decode cX6_leaveFront 6 = .ok (.iconst 2, 1) := by decide +kernel
theorem dX6_leaveFront_7 : decode cX6_leaveFront 7 = .ok (.invokevirtual 43, 3) := by decide +kernel
theorem dX6_leaveFront_10 : decode cX6_leaveFront 10 = .ok (.return_, 1) := by decide +kernel
theorem dX6_sendToRest_0 : decode cX6_sendToRest 0 = .ok (.aload_n 0, 1) := by decide +kernel
theorem dX6_sendToRest_1 : decode cX6_sendToRest 1 = .ok (.getfield 15, 3) := by decide +kernel
theorem dX6_sendToRest_4 : decode cX6_sendToRest 4 = .ok (.ifCond .lt 25, 3) := by decide +kernel
theorem dX6_sendToRest_7 : decode cX6_sendToRest 7 = .ok (.aload_n 0, 1) := by decide +kernel
theorem dX6_sendToRest_8 : decode cX6_sendToRest 8 = .ok (.getfield 15, 3) := by decide +kernel
theorem dX6_sendToRest_11 : decode cX6_sendToRest 11 = .ok (.aload_n 0, 1) := by decide +kernel
theorem dX6_sendToRest_12 : decode cX6_sendToRest 12 = .ok (.getfield 11, 3) := by decide +kernel
theorem dX6_sendToRest_15 : decode cX6_sendToRest 15 = .ok (.arraylength, 1) := by decide +kernel
theorem dX6_sendToRest_16 : decode cX6_sendToRest 16 = .ok (.if_icmp .ge 13, 3) := by decide +kernel
theorem dX6_sendToRest_19 : decode cX6_sendToRest 19 = .ok (.aload_n 0, 1) := by decide +kernel
theorem dX6_sendToRest_20 : decode cX6_sendToRest 20 = .ok (.getfield 11, 3) := by decide +kernel
theorem dX6_sendToRest_23 : decode cX6_sendToRest 23 = .ok (.aload_n 0, 1) := by decide +kernel
theorem dX6_sendToRest_24 : decode cX6_sendToRest 24 = .ok (.getfield 15, 3) := by decide +kernel
theorem dX6_sendToRest_27 : decode cX6_sendToRest 27 = .ok (.iload_n 1, 1) := by decide +kernel
theorem dX6_sendToRest_28 : decode cX6_sendToRest 28 = .ok (.iastore, 1) := by decide +kernel
theorem dX6_sendToRest_29 : decode cX6_sendToRest 29 = .ok (.aload_n 0, 1) := by decide +kernel
theorem dX6_sendToRest_30 : decode cX6_sendToRest 30 = .ok (.bipush (-9), 2) := by decide +kernel
theorem dX6_sendToRest_32 : decode cX6_sendToRest 32 = .ok (.putfield 15, 3) := by decide +kernel
theorem dX6_sendToRest_35 : decode cX6_sendToRest 35 = .ok (.aload_n 0, 1) := by decide +kernel
theorem dX6_sendToRest_36 : decode cX6_sendToRest 36 = .ok (.iconst 0, 1) := by decide +kernel
theorem dX6_sendToRest_37 : decode cX6_sendToRest 37 = .ok (.putfield 29, 3) := by decide +kernel
theorem dX6_sendToRest_40 : decode cX6_sendToRest 40 = .ok (.return_, 1) := by decide +kernel
theorem dX6_restOneDay_0 : decode cX6_restOneDay 0 = .ok (.iconst 0, 1) := by decide +kernel
theorem dX6_restOneDay_1 : decode cX6_restOneDay 1 = .ok (.istore_n 1, 1) := by decide +kernel
theorem dX6_restOneDay_2 : decode cX6_restOneDay 2 = .ok (.iload_n 1, 1) := by decide +kernel
theorem dX6_restOneDay_3 : decode cX6_restOneDay 3 = .ok (.aload_n 0, 1) := by decide +kernel
theorem dX6_restOneDay_4 : decode cX6_restOneDay 4 = .ok (.getfield 11, 3) := by decide +kernel
theorem dX6_restOneDay_7 : decode cX6_restOneDay 7 = .ok (.arraylength, 1) := by decide +kernel
theorem dX6_restOneDay_8 : decode cX6_restOneDay 8 = .ok (.if_icmp .ge 28, 3) := by decide +kernel
theorem dX6_restOneDay_11 : decode cX6_restOneDay 11 = .ok (.aload_n 0, 1) := by decide +kernel
theorem dX6_restOneDay_12 : decode cX6_restOneDay 12 = .ok (.getfield 11, 3) := by decide +kernel
theorem dX6_restOneDay_15 : decode cX6_restOneDay 15 = .ok (.iload_n 1, 1) := by decide +kernel
theorem dX6_restOneDay_16 : decode cX6_restOneDay 16 = .ok (.iaload, 1) := by decide +kernel
theorem dX6_restOneDay_17 : decode cX6_restOneDay 17 = .ok (.ifCond .le 13, 3) := by decide +kernel
theorem dX6_restOneDay_20 : decode cX6_restOneDay 20 = .ok (.aload_n 0, 1) := by decide +kernel
theorem dX6_restOneDay_21 : decode cX6_restOneDay 21 = .ok (.getfield 11, 3) := by decide +kernel
theorem dX6_restOneDay_24 : decode cX6_restOneDay 24 = .ok (.iload_n 1, 1) := by decide +kernel
theorem dX6_restOneDay_25 : decode cX6_restOneDay 25 = .ok (.dup2, 1) := by decide +kernel
theorem dX6_restOneDay_26 : decode cX6_restOneDay 26 = .ok (.iaload, 1) := by decide +kernel
theorem dX6_restOneDay_27 : decode cX6_restOneDay 27 = .ok (.iconst 1, 1) := by decide +kernel
theorem dX6_restOneDay_28 : decode cX6_restOneDay 28 = .ok (.isub, 1) := by decide +kernel
theorem dX6_restOneDay_29 : decode cX6_restOneDay 29 = .ok (.iastore, 1) := by decide +kernel
theorem dX6_restOneDay_30 : decode cX6_restOneDay 30 = .ok (.iinc 1 1, 3) := by decide +kernel
theorem dX6_restOneDay_33 : decode cX6_restOneDay 33 = .ok (.goto (-31), 3) := by decide +kernel
theorem dX6_restOneDay_36 : decode cX6_restOneDay 36 = .ok (.return_, 1) := by decide +kernel
