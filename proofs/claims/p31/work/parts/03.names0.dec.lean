theorem dX0_init_0 : decode cX0_init 0 = .ok (.aload_n 0, 1) := by decide +kernel
theorem dX0_init_1 : decode cX0_init 1 = .ok (.invokespecial 1, 3) := by decide +kernel
theorem dX0_init_4 : decode cX0_init 4 = .ok (.aload_n 0, 1) := by decide +kernel
theorem dX0_init_5 : decode cX0_init 5 = .ok (.bipush 14, 2) := by decide +kernel
theorem dX0_init_7 : decode cX0_init 7 = .ok (.anewarray 9, 3) := by decide +kernel
theorem dX0_init_10 : decode cX0_init 10 = .ok (.putfield 11, 3) := by decide +kernel
theorem dX0_init_13 : decode cX0_init 13 = .ok (.iconst 0, 1) := by decide +kernel
theorem dX0_init_14 : decode cX0_init 14 = .ok (.istore_n 1, 1) := by decide +kernel
theorem dX0_init_15 : decode cX0_init 15 = .ok (.iload_n 1, 1) := by decide +kernel
theorem dX0_init_16 : decode cX0_init 16 = .ok (.aload_n 0, 1) := by decide +kernel
theorem dX0_init_17 : decode cX0_init 17 = .ok (.getfield 11, 3) := by decide +kernel
theorem dX0_init_20 : decode cX0_init 20 = .ok (.arraylength, 1) := by decide +kernel
theorem dX0_init_21 : decode cX0_init 21 = .ok (.if_icmp .ge 22, 3) := by decide +kernel
theorem dX0_init_24 : decode cX0_init 24 = .ok (.aload_n 0, 1) := by decide +kernel
theorem dX0_init_25 : decode cX0_init 25 = .ok (.getfield 11, 3) := by decide +kernel
theorem dX0_init_28 : decode cX0_init 28 = .ok (.iload_n 1, 1) := by decide +kernel
theorem dX0_init_29 : decode cX0_init 29 = .ok (.new 9, 3) := by decide +kernel
theorem dX0_init_32 : decode cX0_init 32 = .ok (.dup, 1) := by decide +kernel
theorem dX0_init_33 : decode cX0_init 33 = .ok (.invokespecial 15, 3) := by decide +kernel
theorem dX0_init_36 : decode cX0_init 36 = .ok (.aastore, 1) := by decide +kernel
theorem dX0_init_37 : decode cX0_init 37 = .ok (.iinc 1 1, 3) := by decide +kernel
theorem dX0_init_40 : decode cX0_init 40 = .ok (.goto (-25), 3) := by decide +kernel
theorem dX0_init_43 : decode cX0_init 43 = .ok (.return_, 1) := by decide +kernel
theorem dX0_clear_0 : decode cX0_clear 0 = .ok (.aload_n 0, 1) := by decide +kernel
theorem dX0_clear_1 : decode cX0_clear 1 = .ok (.iconst 0, 1) := by decide +kernel
theorem dX0_clear_2 : decode cX0_clear 2 = .ok (.putfield 16, 3) := by decide +kernel
theorem dX0_clear_5 : decode cX0_clear 5 = .ok (.aload_n 0, 1) := by decide +kernel
theorem dX0_clear_6 : decode cX0_clear 6 = .ok (.iconst 0, 1) := by decide +kernel
theorem dX0_clear_7 : decode cX0_clear 7 = .ok (.putfield 20, 3) := by decide +kernel
theorem dX0_clear_10 : decode cX0_clear 10 = .ok (.return_, 1) := by decide +kernel
theorem dX0_remember_0 : decode cX0_remember 0 = .ok (.aload_n 0, 1) := by decide +kernel
theorem dX0_remember_1 : decode cX0_remember 1 = .ok (.aload_n 0, 1) := by decide +kernel
theorem dX0_remember_2 : decode cX0_remember 2 = .ok (.getfield 20, 3) := by decide +kernel
theorem dX0_remember_5 : decode cX0_remember 5 = .ok (.invokevirtual 23, 3) := by decide +kernel
theorem dX0_remember_8 : decode cX0_remember 8 = .ok (.astore_n 2, 1) := by decide +kernel
theorem dX0_remember_9 : decode cX0_remember 9 = .ok (.aload_n 2, 1) := by decide +kernel
theorem dX0_remember_10 : decode cX0_remember 10 = .ok (.ifnull 8, 3) := by decide +kernel
theorem dX0_remember_13 : decode cX0_remember 13 = .ok (.aload_n 2, 1) := by decide +kernel
theorem dX0_remember_14 : decode cX0_remember 14 = .ok (.aload_n 1, 1) := by decide +kernel
theorem dX0_remember_15 : decode cX0_remember 15 = .ok (.invokevirtual 27, 3) := by decide +kernel
theorem dX0_remember_18 : decode cX0_remember 18 = .ok (.aload_n 0, 1) := by decide +kernel
theorem dX0_remember_19 : decode cX0_remember 19 = .ok (.getfield 20, 3) := by decide +kernel
theorem dX0_remember_22 : decode cX0_remember 22 = .ok (.bipush 14, 2) := by decide +kernel
theorem dX0_remember_24 : decode cX0_remember 24 = .ok (.if_icmp .ge 16, 3) := by decide +kernel
theorem dX0_remember_27 : decode cX0_remember 27 = .ok (.aload_n 0, 1) := by decide +kernel
theorem dX0_remember_28 : decode cX0_remember 28 = .ok (.dup, 1) := by decide +kernel
theorem dX0_remember_29 : decode cX0_remember 29 = .ok (.getfield 20, 3) := by decide +kernel
theorem dX0_remember_32 : decode cX0_remember 32 = .ok (.iconst 1, 1) := by decide +kernel
theorem dX0_remember_33 : decode cX0_remember 33 = .ok (.iadd, 1) := by decide +kernel
theorem dX0_remember_34 : decode cX0_remember 34 = .ok (.putfield 20, 3) := by decide +kernel
theorem dX0_remember_37 : decode cX0_remember 37 = .ok (.goto 16, 3) := by decide +kernel
theorem dX0_remember_40 : decode cX0_remember 40 = .ok (.aload_n 0, 1) := by decide +kernel
theorem dX0_remember_41 : decode cX0_remember 41 = .ok (.aload_n 0, 1) := by decide +kernel
theorem dX0_remember_42 : decode cX0_remember 42 = .ok (.getfield 16, 3) := by decide +kernel
theorem dX0_remember_45 : decode cX0_remember 45 = .ok (.iconst 1, 1) := by decide +kernel
theorem dX0_remember_46 : decode cX0_remember 46 = .ok (.iadd, 1) := by decide +kernel
theorem dX0_remember_47 : decode cX0_remember 47 = .ok (.bipush 14, 2) := by decide +kernel
theorem dX0_remember_49 : decode cX0_remember 49 = .ok (.irem, 1) := by decide +kernel
theorem dX0_remember_50 : decode cX0_remember 50 = .ok (.putfield 16, 3) := by decide +kernel
theorem dX0_remember_53 : decode cX0_remember 53 = .ok (.return_, 1) := by decide +kernel
theorem dX0_takeBack_0 : decode cX0_takeBack 0 = .ok (.aload_n 0, 1) := by decide +kernel
theorem dX0_takeBack_1 : decode cX0_takeBack 1 = .ok (.aload_n 0, 1) := by decide +kernel
theorem dX0_takeBack_2 : decode cX0_takeBack 2 = .ok (.getfield 20, 3) := by decide +kernel
theorem dX0_takeBack_5 : decode cX0_takeBack 5 = .ok (.iconst 1, 1) := by decide +kernel
theorem dX0_takeBack_6 : decode cX0_takeBack 6 = .ok (.isub, 1) := by decide +kernel
theorem dX0_takeBack_7 : decode cX0_takeBack 7 = .ok (.invokevirtual 23, 3) := by decide +kernel
theorem dX0_takeBack_10 : decode cX0_takeBack 10 = .ok (.astore_n 2, 1) := by decide +kernel
theorem dX0_takeBack_11 : decode cX0_takeBack 11 = .ok (.aload_n 2, 1) := by decide +kernel
theorem dX0_takeBack_12 : decode cX0_takeBack 12 = .ok (.ifnull 25, 3) := by decide +kernel
theorem dX0_takeBack_15 : decode cX0_takeBack 15 = .ok (.aload_n 0, 1) := by decide +kernel
theorem dX0_takeBack_16 : decode cX0_takeBack 16 = .ok (.getfield 20, 3) := by decide +kernel
theorem dX0_takeBack_19 : decode cX0_takeBack 19 = .ok (.ifCond .le 18, 3) := by decide +kernel
theorem dX0_takeBack_22 : decode cX0_takeBack 22 = .ok (.aload_n 0, 1) := by decide +kernel
theorem dX0_takeBack_23 : decode cX0_takeBack 23 = .ok (.dup, 1) := by decide +kernel
theorem dX0_takeBack_24 : decode cX0_takeBack 24 = .ok (.getfield 20, 3) := by decide +kernel
theorem dX0_takeBack_27 : decode cX0_takeBack 27 = .ok (.iconst 1, 1) := by decide +kernel
theorem dX0_takeBack_28 : decode cX0_takeBack 28 = .ok (.isub, 1) := by decide +kernel
theorem dX0_takeBack_29 : decode cX0_takeBack 29 = .ok (.putfield 20, 3) := by decide +kernel
theorem dX0_takeBack_32 : decode cX0_takeBack 32 = .ok (.aload_n 1, 1) := by decide +kernel
theorem dX0_takeBack_33 : decode cX0_takeBack 33 = .ok (.aload_n 2, 1) := by decide +kernel
theorem dX0_takeBack_34 : decode cX0_takeBack 34 = .ok (.invokevirtual 27, 3) := by decide +kernel
theorem dX0_takeBack_37 : decode cX0_takeBack 37 = .ok (.aload_n 0, 1) := by decide +kernel
theorem dX0_takeBack_38 : decode cX0_takeBack 38 = .ok (.getfield 20, 3) := by decide +kernel
theorem dX0_takeBack_41 : decode cX0_takeBack 41 = .ok (.ireturn, 1) := by decide +kernel
theorem dX0_placeOf_0 : decode cX0_placeOf 0 = .ok (.aload_n 0, 1) := by decide +kernel
theorem dX0_placeOf_1 : decode cX0_placeOf 1 = .ok (.getfield 16, 3) := by decide +kernel
theorem dX0_placeOf_4 : decode cX0_placeOf 4 = .ok (.iload_n 1, 1) := by decide +kernel
theorem dX0_placeOf_5 : decode cX0_placeOf 5 = .ok (.iadd, 1) := by decide +kernel
theorem dX0_placeOf_6 : decode cX0_placeOf 6 = .ok (.bipush 14, 2) := by decide +kernel
theorem dX0_placeOf_8 : decode cX0_placeOf 8 = .ok (.irem, 1) := by decide +kernel
theorem dX0_placeOf_9 : decode cX0_placeOf 9 = .ok (.istore_n 2, 1) := by decide +kernel
theorem dX0_placeOf_10 : decode cX0_placeOf 10 = .ok (.iload_n 2, 1) := by decide +kernel
theorem dX0_placeOf_11 : decode cX0_placeOf 11 = .ok (.ifCond .lt 21, 3) := by decide +kernel
theorem dX0_placeOf_14 : decode cX0_placeOf 14 = .ok (.iload_n 2, 1) := by decide +kernel
theorem dX0_placeOf_15 : decode cX0_placeOf 15 = .ok (.aload_n 0, 1) := by decide +kernel
theorem dX0_placeOf_16 : decode cX0_placeOf 16 = .ok (.getfield 11, 3) := by decide +kernel
theorem dX0_placeOf_19 : decode cX0_placeOf 19 = .ok (.arraylength, 1) := by decide +kernel
theorem dX0_placeOf_20 : decode cX0_placeOf 20 = .ok (.if_icmp .ge 12, 3) := by decide +kernel
theorem dX0_placeOf_23 : decode cX0_placeOf 23 = .ok (.aload_n 0, 1) := by decide +kernel
theorem dX0_placeOf_24 : decode cX0_placeOf 24 = .ok (.getfield 11, 3) := by decide +kernel
theorem dX0_placeOf_27 : decode cX0_placeOf 27 = .ok (.iload_n 2, 1) := by decide +kernel
theorem dX0_placeOf_28 : decode cX0_placeOf 28 = .ok (.aaload, 1) := by decide +kernel
theorem dX0_placeOf_29 : decode cX0_placeOf 29 = .ok (.goto 4, 3) := by decide +kernel
theorem dX0_placeOf_32 : decode cX0_placeOf 32 = .ok (.aconst_null, 1) := by decide +kernel
theorem dX0_placeOf_33 : decode cX0_placeOf 33 = .ok (.areturn, 1) := by decide +kernel
theorem dX1_init_0 : decode cX1_init 0 = .ok (.aload_n 0, 1) := by decide +kernel
theorem dX1_init_1 : decode cX1_init 1 = .ok (.invokespecial 1, 3) := by decide +kernel
theorem dX1_init_4 : decode cX1_init 4 = .ok (.return_, 1) := by decide +kernel
theorem dX1_begin_0 : decode cX1_begin 0 = .ok (.aload_n 0, 1) := by decide +kernel
theorem dX1_begin_1 : decode cX1_begin 1 = .ok (.iload_n 1, 1) := by decide +kernel
theorem dX1_begin_2 : decode cX1_begin 2 = .ok (.putfield 7, 3) := by decide +kernel
theorem dX1_begin_5 : decode cX1_begin 5 = .ok (.aload_n 0, 1) := by decide +kernel
theorem dX1_begin_6 : decode cX1_begin 6 = .ok (.iconst 0, 1) := by decide +kernel
theorem dX1_begin_7 : decode cX1_begin 7 = .ok (.putfield 13, 3) := by decide +kernel
theorem dX1_begin_10 : decode cX1_begin 10 = .ok (.aload_n 0, 1) := by decide +kernel
theorem dX1_begin_11 : decode cX1_begin 11 = .ok (.iconst 0, 1) := by decide +kernel
theorem dX1_begin_12 : decode cX1_begin 12 = .ok (.putfield 16, 3) := by decide +kernel
theorem dX1_begin_15 : decode cX1_begin 15 = .ok (.aload_n 0, 1) := by decide +kernel
theorem dX1_begin_16 : decode cX1_begin 16 = .ok (.iconst 0, 1) := by decide +kernel
theorem dX1_begin_17 : decode cX1_begin 17 = .ok (.putfield 19, 3) := by decide +kernel
theorem dX1_begin_20 : decode cX1_begin 20 = .ok (.aload_n 0, 1) := by decide +kernel
theorem dX1_begin_21 : decode cX1_begin 21 = .ok (.iconst 0, 1) := by decide +kernel
theorem dX1_begin_22 : decode cX1_begin 22 = .ok (.putfield 22, 3) := by decide +kernel
theorem dX1_begin_25 : decode cX1_begin 25 = .ok (.aload_n 0, 1) := by decide +kernel
theorem dX1_begin_26 : decode cX1_begin 26 = .ok (.iconst 0, 1) := by decide +kernel
theorem dX1_begin_27 : decode cX1_begin 27 = .ok (.putfield 25, 3) := by decide +kernel
theorem dX1_begin_30 : decode cX1_begin 30 = .ok (.aload_n 0, 1) := by decide +kernel
theorem dX1_begin_31 : decode cX1_begin 31 = .ok (.iconst 0, 1) := by decide +kernel
theorem dX1_begin_32 : decode cX1_begin 32 = .ok (.putfield 28, 3) := by decide +kernel
theorem dX1_begin_35 : decode cX1_begin 35 = .ok (.return_, 1) := by decide +kernel
theorem dX1_copyFrom_0 : decode cX1_copyFrom 0 = .ok (.aload_n 0, 1) := by decide +kernel
theorem dX1_copyFrom_1 : decode cX1_copyFrom 1 = .ok (.aload_n 1, 1) := by decide +kernel
theorem dX1_copyFrom_2 : decode cX1_copyFrom 2 = .ok (.getfield 7, 3) := by decide +kernel
theorem dX1_copyFrom_5 : decode cX1_copyFrom 5 = .ok (.putfield 7, 3) := by decide +kernel
theorem dX1_copyFrom_8 : decode cX1_copyFrom 8 = .ok (.aload_n 0, 1) := by decide +kernel
theorem dX1_copyFrom_9 : decode cX1_copyFrom 9 = .ok (.aload_n 1, 1) := by decide +kernel
theorem dX1_copyFrom_10 : decode cX1_copyFrom 10 = .ok (.getfield 13, 3) := by decide +kernel
theorem dX1_copyFrom_13 : decode cX1_copyFrom 13 = .ok (.putfield 13, 3) := by decide +kernel
theorem dX1_copyFrom_16 : decode cX1_copyFrom 16 = .ok (.aload_n 0, 1) := by decide +kernel
theorem dX1_copyFrom_17 : decode cX1_copyFrom 17 = .ok (.aload_n 1, 1) := by decide +kernel
theorem dX1_copyFrom_18 : decode cX1_copyFrom 18 = .ok (.getfield 16, 3) := by decide +kernel
theorem dX1_copyFrom_21 : decode cX1_copyFrom 21 = .ok (.putfield 16, 3) := by decide +kernel
theorem dX1_copyFrom_24 : decode cX1_copyFrom 24 = .ok (.aload_n 0, 1) := by decide +kernel
theorem dX1_copyFrom_25 : decode cX1_copyFrom 25 = .ok (.aload_n 1, 1) := by decide +kernel
theorem dX1_copyFrom_26 : decode cX1_copyFrom 26 = .ok (.getfield 19, 3) := by decide +kernel
theorem dX1_copyFrom_29 : decode cX1_copyFrom 29 = .ok (.putfield 19, 3) := by decide +kernel
theorem dX1_copyFrom_32 : decode cX1_copyFrom 32 = .ok (.aload_n 0, 1) := by decide +kernel
theorem dX1_copyFrom_33 : decode cX1_copyFrom 33 = .ok (.aload_n 1, 1) := by decide +kernel
theorem dX1_copyFrom_34 : decode cX1_copyFrom 34 = .ok (.getfield 22, 3) := by decide +kernel
theorem dX1_copyFrom_37 : decode cX1_copyFrom 37 = .ok (.putfield 22, 3) := by decide +kernel
theorem dX1_copyFrom_40 : decode cX1_copyFrom 40 = .ok (.aload_n 0, 1) := by decide +kernel
theorem dX1_copyFrom_41 : decode cX1_copyFrom 41 = .ok (.aload_n 1, 1) := by decide +kernel
theorem dX1_copyFrom_42 : decode cX1_copyFrom 42 = .ok (.getfield 25, 3) := by decide +kernel
theorem dX1_copyFrom_45 : decode cX1_copyFrom 45 = .ok (.putfield 25, 3) := by decide +kernel
theorem dX1_copyFrom_48 : decode cX1_copyFrom 48 = .ok (.aload_n 0, 1) := by decide +kernel
theorem dX1_copyFrom_49 : decode cX1_copyFrom 49 = .ok (.aload_n 1, 1) := by decide +kernel
theorem dX1_copyFrom_50 : decode cX1_copyFrom 50 = .ok (.getfield 28, 3) := by decide +kernel
theorem dX1_copyFrom_53 : decode cX1_copyFrom 53 = .ok (.putfield 28, 3) := by decide +kernel
theorem dX1_copyFrom_56 : decode cX1_copyFrom 56 = .ok (.return_, 1) := by decide +kernel
theorem dX2_withoutLast_0 : decode cX2_withoutLast 0 = .ok (.lload_n 0, 1) := by decide +kernel
theorem dX2_withoutLast_1 : decode cX2_withoutLast 1 = .ok (.lstore_n 3, 1) := by decide +kernel
theorem dX2_withoutLast_2 : decode cX2_withoutLast 2 = .ok (.iconst 0, 1) := by decide +kernel
theorem dX2_withoutLast_3 : decode cX2_withoutLast 3 = .ok (.istore 5, 2) := by decide +kernel
theorem dX2_withoutLast_5 : decode cX2_withoutLast 5 = .ok (.iload 5, 2) := by decide +kernel
theorem dX2_withoutLast_7 : decode cX2_withoutLast 7 = .ok (.iload_n 2, 1) := by decide +kernel
theorem dX2_withoutLast_8 : decode cX2_withoutLast 8 = .ok (.if_icmp .ge 15, 3) := by decide +kernel
theorem dX2_withoutLast_11 : decode cX2_withoutLast 11 = .ok (.lload_n 3, 1) := by decide +kernel
theorem dX2_withoutLast_12 : decode cX2_withoutLast 12 = .ok (.ldc2_w 11, 3) := by decide +kernel
theorem dX2_withoutLast_15 : decode cX2_withoutLast 15 = .ok (.ldiv, 1) := by decide +kernel
theorem dX2_withoutLast_16 : decode cX2_withoutLast 16 = .ok (.lstore_n 3, 1) := by decide +kernel
theorem dX2_withoutLast_17 : decode cX2_withoutLast 17 = .ok (.iinc 5 1, 3) := by decide +kernel
theorem dX2_withoutLast_20 : decode cX2_withoutLast 20 = .ok (.goto (-15), 3) := by decide +kernel
theorem dX2_withoutLast_23 : decode cX2_withoutLast 23 = .ok (.lload_n 3, 1) := by decide +kernel
theorem dX2_withoutLast_24 : decode cX2_withoutLast 24 = .ok (.lreturn, 1) := by decide +kernel
theorem dX2_succeeds_0 : decode cX2_succeeds 0 = .ok (.iload_n 1, 1) := by decide +kernel
theorem dX2_succeeds_1 : decode cX2_succeeds 1 = .ok (.sipush 1000, 3) := by decide +kernel
theorem dX2_succeeds_4 : decode cX2_succeeds 4 = .ok (.idiv, 1) := by decide +kernel
theorem dX2_succeeds_5 : decode cX2_succeeds 5 = .ok (.bipush 10, 2) := by decide +kernel
theorem dX2_succeeds_7 : decode cX2_succeeds 7 = .ok (.irem, 1) := by decide +kernel
theorem dX2_succeeds_8 : decode cX2_succeeds 8 = .ok (.istore_n 2, 1) := by decide +kernel
theorem dX2_succeeds_9 : decode cX2_succeeds 9 = .ok (.iload_n 1, 1) := by decide +kernel
theorem dX2_succeeds_10 : decode cX2_succeeds 10 = .ok (.sipush 1000, 3) := by decide +kernel
theorem dX2_succeeds_13 : decode cX2_succeeds 13 = .ok (.irem, 1) := by decide +kernel
theorem dX2_succeeds_14 : decode cX2_succeeds 14 = .ok (.istore_n 3, 1) := by decide +kernel
theorem dX2_succeeds_15 : decode cX2_succeeds 15 = .ok (.iload_n 1, 1) := by decide +kernel
theorem dX2_succeeds_16 : decode cX2_succeeds 16 = .ok (.sipush 10000, 3) := by decide +kernel
theorem dX2_succeeds_19 : decode cX2_succeeds 19 = .ok (.idiv, 1) := by decide +kernel
theorem dX2_succeeds_20 : decode cX2_succeeds 20 = .ok (.tableswitch 250 1 9 #[52, 63, 85, 107, 132, 156, 174, 202, 226], 52) := by decide +kernel
theorem dX2_succeeds_72 : decode cX2_succeeds 72 = .ok (.aload_n 0, 1) := by decide +kernel
theorem dX2_succeeds_73 : decode cX2_succeeds 73 = .ok (.aload_n 0, 1) := by decide +kernel
theorem dX2_succeeds_74 : decode cX2_succeeds 74 = .ok (.iload_n 2, 1) := by decide +kernel
theorem dX2_succeeds_75 : decode cX2_succeeds 75 = .ok (.invokevirtual 13, 3) := by decide +kernel
theorem dX2_succeeds_78 : decode cX2_succeeds 78 = .ok (.iload_n 3, 1) := by decide +kernel
theorem dX2_succeeds_79 : decode cX2_succeeds 79 = .ok (.invokestatic 19, 3) := by decide +kernel
theorem dX2_succeeds_82 : decode cX2_succeeds 82 = .ok (.ireturn, 1) := by decide +kernel
theorem dX2_succeeds_83 : decode cX2_succeeds 83 = .ok (.iload_n 3, 1) := by decide +kernel
theorem dX2_succeeds_84 : decode cX2_succeeds 84 = .ok (.ifCond .ne 19, 3) := by decide +kernel
theorem dX2_succeeds_87 : decode cX2_succeeds 87 = .ok (.aload_n 0, 1) := by decide +kernel
theorem dX2_succeeds_88 : decode cX2_succeeds 88 = .ok (.aload_n 0, 1) := by decide +kernel
theorem dX2_succeeds_89 : decode cX2_succeeds 89 = .ok (.iload_n 2, 1) := by decide +kernel
theorem dX2_succeeds_90 : decode cX2_succeeds 90 = .ok (.invokevirtual 13, 3) := by decide +kernel
theorem dX2_succeeds_93 : decode cX2_succeeds 93 = .ok (.invokestatic 23, 3) := by decide +kernel
theorem dX2_succeeds_96 : decode cX2_succeeds 96 = .ok (.ifCond .eq 7, 3) := by decide +kernel
theorem dX2_succeeds_99 : decode cX2_succeeds 99 = .ok (.iconst 1, 1) := by decide +kernel
theorem dX2_succeeds_100 : decode cX2_succeeds 100 = .ok (.goto 4, 3) := by decide +kernel
theorem dX2_succeeds_103 : decode cX2_succeeds 103 = .ok (.iconst 0, 1) := by decide +kernel
theorem dX2_succeeds_104 : decode cX2_succeeds 104 = .ok (.ireturn, 1) := by decide +kernel
theorem dX2_succeeds_105 : decode cX2_succeeds 105 = .ok (.iload_n 3, 1) := by decide +kernel
theorem dX2_succeeds_106 : decode cX2_succeeds 106 = .ok (.ifCond .ne 19, 3) := by decide +kernel
theorem dX2_succeeds_109 : decode cX2_succeeds 109 = .ok (.aload_n 0, 1) := by decide +kernel
theorem dX2_succeeds_110 : decode cX2_succeeds 110 = .ok (.aload_n 0, 1) := by decide +kernel
theorem dX2_succeeds_111 : decode cX2_succeeds 111 = .ok (.iload_n 2, 1) := by decide +kernel
theorem dX2_succeeds_112 : decode cX2_succeeds 112 = .ok (.invokevirtual 13, 3) := by decide +kernel
theorem dX2_succeeds_115 : decode cX2_succeeds 115 = .ok (.invokestatic 27, 3) := by decide +kernel
theorem dX2_succeeds_118 : decode cX2_succeeds 118 = .ok (.ifCond .eq 7, 3) := by decide +kernel
theorem dX2_succeeds_121 : decode cX2_succeeds 121 = .ok (.iconst 1, 1) := by decide +kernel
theorem dX2_succeeds_122 : decode cX2_succeeds 122 = .ok (.goto 4, 3) := by decide +kernel
theorem dX2_succeeds_125 : decode cX2_succeeds 125 = .ok (.iconst 0, 1) := by decide +kernel
theorem dX2_succeeds_126 : decode cX2_succeeds 126 = .ok (.ireturn, 1) := by decide +kernel
theorem dX2_succeeds_127 : decode cX2_succeeds 127 = .ok (.iload_n 3, 1) := by decide +kernel
theorem dX2_succeeds_128 : decode cX2_succeeds 128 = .ok (.bipush 100, 2) := by decide +kernel
theorem dX2_succeeds_130 : decode cX2_succeeds 130 = .ok (.if_icmp .ge 20, 3) := by decide +kernel
theorem dX2_succeeds_133 : decode cX2_succeeds 133 = .ok (.aload_n 0, 1) := by decide +kernel
theorem dX2_succeeds_134 : decode cX2_succeeds 134 = .ok (.aload_n 0, 1) := by decide +kernel
theorem dX2_succeeds_135 : decode cX2_succeeds 135 = .ok (.iload_n 2, 1) := by decide +kernel
theorem dX2_succeeds_136 : decode cX2_succeeds 136 = .ok (.invokevirtual 30, 3) := by decide +kernel
theorem dX2_succeeds_139 : decode cX2_succeeds 139 = .ok (.iload_n 3, 1) := by decide +kernel
theorem dX2_succeeds_140 : decode cX2_succeeds 140 = .ok (.invokestatic 34, 3) := by decide +kernel
theorem dX2_succeeds_143 : decode cX2_succeeds 143 = .ok (.ifCond .eq 7, 3) := by decide +kernel
theorem dX2_succeeds_146 : decode cX2_succeeds 146 = .ok (.iconst 1, 1) := by decide +kernel
theorem dX2_succeeds_147 : decode cX2_succeeds 147 = .ok (.goto 4, 3) := by decide +kernel
theorem dX2_succeeds_150 : decode cX2_succeeds 150 = .ok (.iconst 0, 1) := by decide +kernel
theorem dX2_succeeds_151 : decode cX2_succeeds 151 = .ok (.ireturn, 1) := by decide +kernel
theorem dX2_succeeds_152 : decode cX2_succeeds 152 = .ok (.iload_n 2, 1) := by decide +kernel
theorem dX2_succeeds_153 : decode cX2_succeeds 153 = .ok (.ifCond .ne 14, 3) := by decide +kernel
theorem dX2_succeeds_156 : decode cX2_succeeds 156 = .ok (.iload_n 3, 1) := by decide +kernel
theorem dX2_succeeds_157 : decode cX2_succeeds 157 = .ok (.iconst 1, 1) := by decide +kernel
theorem dX2_succeeds_158 : decode cX2_succeeds 158 = .ok (.if_icmp .lt 9, 3) := by decide +kernel
theorem dX2_succeeds_161 : decode cX2_succeeds 161 = .ok (.iload_n 3, 1) := by decide +kernel
theorem dX2_succeeds_162 : decode cX2_succeeds 162 = .ok (.bipush 99, 2) := by decide +kernel
theorem dX2_succeeds_164 : decode cX2_succeeds 164 = .ok (.if_icmp .le 5, 3) := by decide +kernel
theorem dX2_succeeds_167 : decode cX2_succeeds 167 = .ok (.iconst 0, 1) := by decide +kernel
theorem dX2_succeeds_168 : decode cX2_succeeds 168 = .ok (.ireturn, 1) := by decide +kernel
theorem dX2_succeeds_169 : decode cX2_succeeds 169 = .ok (.aload_n 0, 1) := by decide +kernel
theorem dX2_succeeds_170 : decode cX2_succeeds 170 = .ok (.iload_n 3, 1) := by decide +kernel
theorem dX2_succeeds_171 : decode cX2_succeeds 171 = .ok (.invokevirtual 38, 3) := by decide +kernel
theorem dX2_succeeds_174 : decode cX2_succeeds 174 = .ok (.iconst 1, 1) := by decide +kernel
theorem dX2_succeeds_175 : decode cX2_succeeds 175 = .ok (.ireturn, 1) := by decide +kernel
theorem dX2_succeeds_176 : decode cX2_succeeds 176 = .ok (.iload_n 2, 1) := by decide +kernel
theorem dX2_succeeds_177 : decode cX2_succeeds 177 = .ok (.ifCond .ne 15, 3) := by decide +kernel
theorem dX2_succeeds_180 : decode cX2_succeeds 180 = .ok (.aload_n 0, 1) := by decide +kernel
theorem dX2_succeeds_181 : decode cX2_succeeds 181 = .ok (.iload_n 3, 1) := by decide +kernel
theorem dX2_succeeds_182 : decode cX2_succeeds 182 = .ok (.invokestatic 42, 3) := by decide +kernel
theorem dX2_succeeds_185 : decode cX2_succeeds 185 = .ok (.ifCond .eq 7, 3) := by decide +kernel
theorem dX2_succeeds_188 : decode cX2_succeeds 188 = .ok (.iconst 1, 1) := by decide +kernel
theorem dX2_succeeds_189 : decode cX2_succeeds 189 = .ok (.goto 4, 3) := by decide +kernel
theorem dX2_succeeds_192 : decode cX2_succeeds 192 = .ok (.iconst 0, 1) := by decide +kernel
theorem dX2_succeeds_193 : decode cX2_succeeds 193 = .ok (.ireturn, 1) := by decide +kernel
theorem dX2_succeeds_194 : decode cX2_succeeds 194 = .ok (.iload_n 3, 1) := by decide +kernel
theorem dX2_succeeds_195 : decode cX2_succeeds 195 = .ok (.bipush 100, 2) := by decide +kernel
theorem dX2_succeeds_197 : decode cX2_succeeds 197 = .ok (.if_icmp .ge 23, 3) := by decide +kernel
theorem dX2_succeeds_200 : decode cX2_succeeds 200 = .ok (.aload_n 0, 1) := by decide +kernel
theorem dX2_succeeds_201 : decode cX2_succeeds 201 = .ok (.getfield 46, 3) := by decide +kernel
theorem dX2_succeeds_204 : decode cX2_succeeds 204 = .ok (.iload_n 2, 1) := by decide +kernel
theorem dX2_succeeds_205 : decode cX2_succeeds 205 = .ok (.if_icmp .ne 15, 3) := by decide +kernel
theorem dX2_succeeds_208 : decode cX2_succeeds 208 = .ok (.aload_n 0, 1) := by decide +kernel
theorem dX2_succeeds_209 : decode cX2_succeeds 209 = .ok (.getfield 50, 3) := by decide +kernel
theorem dX2_succeeds_212 : decode cX2_succeeds 212 = .ok (.iload_n 3, 1) := by decide +kernel
theorem dX2_succeeds_213 : decode cX2_succeeds 213 = .ok (.if_icmp .ne 7, 3) := by decide +kernel
theorem dX2_succeeds_216 : decode cX2_succeeds 216 = .ok (.iconst 1, 1) := by decide +kernel
theorem dX2_succeeds_217 : decode cX2_succeeds 217 = .ok (.goto 4, 3) := by decide +kernel
theorem dX2_succeeds_220 : decode cX2_succeeds 220 = .ok (.iconst 0, 1) := by decide +kernel
theorem dX2_succeeds_221 : decode cX2_succeeds 221 = .ok (.ireturn, 1) := by decide +kernel
theorem dX2_succeeds_222 : decode cX2_succeeds 222 = .ok (.iload_n 3, 1) := by decide +kernel
theorem dX2_succeeds_223 : decode cX2_succeeds 223 = .ok (.bipush 10, 2) := by decide +kernel
theorem dX2_succeeds_225 : decode cX2_succeeds 225 = .ok (.if_icmp .ge 19, 3) := by decide +kernel
theorem dX2_succeeds_228 : decode cX2_succeeds 228 = .ok (.aload_n 0, 1) := by decide +kernel
theorem dX2_succeeds_229 : decode cX2_succeeds 229 = .ok (.iload_n 2, 1) := by decide +kernel
theorem dX2_succeeds_230 : decode cX2_succeeds 230 = .ok (.invokevirtual 13, 3) := by decide +kernel
theorem dX2_succeeds_233 : decode cX2_succeeds 233 = .ok (.iload_n 3, 1) := by decide +kernel
theorem dX2_succeeds_234 : decode cX2_succeeds 234 = .ok (.invokestatic 53, 3) := by decide +kernel
theorem dX2_succeeds_237 : decode cX2_succeeds 237 = .ok (.ifCond .eq 7, 3) := by decide +kernel
theorem dX2_succeeds_240 : decode cX2_succeeds 240 = .ok (.iconst 1, 1) := by decide +kernel
theorem dX2_succeeds_241 : decode cX2_succeeds 241 = .ok (.goto 4, 3) := by decide +kernel
theorem dX2_succeeds_244 : decode cX2_succeeds 244 = .ok (.iconst 0, 1) := by decide +kernel
theorem dX2_succeeds_245 : decode cX2_succeeds 245 = .ok (.ireturn, 1) := by decide +kernel
theorem dX2_succeeds_246 : decode cX2_succeeds 246 = .ok (.iload_n 2, 1) := by decide +kernel
theorem dX2_succeeds_247 : decode cX2_succeeds 247 = .ok (.ifCond .ne 21, 3) := by decide +kernel
theorem dX2_succeeds_250 : decode cX2_succeeds 250 = .ok (.iload_n 3, 1) := by decide +kernel
theorem dX2_succeeds_251 : decode cX2_succeeds 251 = .ok (.bipush 10, 2) := by decide +kernel
theorem dX2_succeeds_253 : decode cX2_succeeds 253 = .ok (.if_icmp .ge 15, 3) := by decide +kernel
theorem dX2_succeeds_256 : decode cX2_succeeds 256 = .ok (.aload_n 0, 1) := by decide +kernel
theorem dX2_succeeds_257 : decode cX2_succeeds 257 = .ok (.getfield 57, 3) := by decide +kernel
theorem dX2_succeeds_260 : decode cX2_succeeds 260 = .ok (.iload_n 3, 1) := by decide +kernel
theorem dX2_succeeds_261 : decode cX2_succeeds 261 = .ok (.if_icmp .ne 7, 3) := by decide +kernel
theorem dX2_succeeds_264 : decode cX2_succeeds 264 = .ok (.iconst 1, 1) := by decide +kernel
theorem dX2_succeeds_265 : decode cX2_succeeds 265 = .ok (.goto 4, 3) := by decide +kernel
theorem dX2_succeeds_268 : decode cX2_succeeds 268 = .ok (.iconst 0, 1) := by decide +kernel
theorem dX2_succeeds_269 : decode cX2_succeeds 269 = .ok (.ireturn, 1) := by decide +kernel
theorem dX2_succeeds_270 : decode cX2_succeeds 270 = .ok (.iconst 0, 1) := by decide +kernel
theorem dX2_succeeds_271 : decode cX2_succeeds 271 = .ok (.ireturn, 1) := by decide +kernel
theorem dX2_takes_0 : decode cX2_takes 0 = .ok (.aload_n 1, 1) := by decide +kernel
theorem dX2_takes_1 : decode cX2_takes 1 = .ok (.ifnull 12, 3) := by decide +kernel
theorem dX2_takes_4 : decode cX2_takes 4 = .ok (.aload_n 0, 1) := by decide +kernel
theorem dX2_takes_5 : decode cX2_takes 5 = .ok (.aload_n 1, 1) := by decide +kernel
theorem dX2_takes_6 : decode cX2_takes 6 = .ok (.iload_n 2, 1) := by decide +kernel
theorem dX2_takes_7 : decode cX2_takes 7 = .ok (.invokevirtual 60, 3) := by decide +kernel
theorem dX2_takes_10 : decode cX2_takes 10 = .ok (.ifCond .ne 5, 3) := by decide +kernel
theorem dX2_takes_13 : decode cX2_takes 13 = .ok (.iconst 0, 1) := by decide +kernel
theorem dX2_takes_14 : decode cX2_takes 14 = .ok (.ireturn, 1) := by decide +kernel
theorem dX2_takes_15 : decode cX2_takes 15 = .ok (.aload_n 0, 1) := by decide +kernel
theorem dX2_takes_16 : decode cX2_takes 16 = .ok (.aload_n 1, 1) := by decide +kernel
theorem dX2_takes_17 : decode cX2_takes 17 = .ok (.iload_n 2, 1) := by decide +kernel
theorem dX2_takes_18 : decode cX2_takes 18 = .ok (.invokevirtual 63, 3) := by decide +kernel
theorem dX2_takes_21 : decode cX2_takes 21 = .ok (.iconst 1, 1) := by decide +kernel
theorem dX2_takes_22 : decode cX2_takes 22 = .ok (.ireturn, 1) := by decide +kernel
theorem dX2_sends_0 : decode cX2_sends 0 = .ok (.aload_n 1, 1) := by decide +kernel
theorem dX2_sends_1 : decode cX2_sends 1 = .ok (.ifnull 11, 3) := by decide +kernel
theorem dX2_sends_4 : decode cX2_sends 4 = .ok (.aload_n 0, 1) := by decide +kernel
theorem dX2_sends_5 : decode cX2_sends 5 = .ok (.aload_n 1, 1) := by decide +kernel
theorem dX2_sends_6 : decode cX2_sends 6 = .ok (.invokevirtual 67, 3) := by decide +kernel
theorem dX2_sends_9 : decode cX2_sends 9 = .ok (.ifCond .ne 5, 3) := by decide +kernel
theorem dX2_sends_12 : decode cX2_sends 12 = .ok (.iconst 0, 1) := by decide +kernel
theorem dX2_sends_13 : decode cX2_sends 13 = .ok (.ireturn, 1) := by decide +kernel
theorem dX2_sends_14 : decode cX2_sends 14 = .ok (.aload_n 0, 1) := by decide +kernel
theorem dX2_sends_15 : decode cX2_sends 15 = .ok (.aload_n 1, 1) := by decide +kernel
theorem dX2_sends_16 : decode cX2_sends 16 = .ok (.invokevirtual 71, 3) := by decide +kernel
theorem dX2_sends_19 : decode cX2_sends 19 = .ok (.iconst 1, 1) := by decide +kernel
theorem dX2_sends_20 : decode cX2_sends 20 = .ok (.ireturn, 1) := by decide +kernel
theorem dX2_recalls_0 : decode cX2_recalls 0 = .ok (.aload_n 1, 1) := by decide +kernel
theorem dX2_recalls_1 : decode cX2_recalls 1 = .ok (.ifnull 11, 3) := by decide +kernel
theorem dX2_recalls_4 : decode cX2_recalls 4 = .ok (.aload_n 0, 1) := by decide +kernel
theorem dX2_recalls_5 : decode cX2_recalls 5 = .ok (.aload_n 1, 1) := by decide +kernel
theorem dX2_recalls_6 : decode cX2_recalls 6 = .ok (.invokevirtual 75, 3) := by decide +kernel
theorem dX2_recalls_9 : decode cX2_recalls 9 = .ok (.ifCond .ne 5, 3) := by decide +kernel
theorem dX2_recalls_12 : decode cX2_recalls 12 = .ok (.iconst 0, 1) := by decide +kernel
theorem dX2_recalls_13 : decode cX2_recalls 13 = .ok (.ireturn, 1) := by decide +kernel
theorem dX2_recalls_14 : decode cX2_recalls 14 = .ok (.aload_n 0, 1) := by decide +kernel
theorem dX2_recalls_15 : decode cX2_recalls 15 = .ok (.aload_n 1, 1) := by decide +kernel
theorem dX2_recalls_16 : decode cX2_recalls 16 = .ok (.invokevirtual 78, 3) := by decide +kernel
theorem dX2_recalls_19 : decode cX2_recalls 19 = .ok (.iconst 1, 1) := by decide +kernel
theorem dX2_recalls_20 : decode cX2_recalls 20 = .ok (.ireturn, 1) := by decide +kernel
theorem dX2_extendsPermit_0 : decode cX2_extendsPermit 0 = .ok (.aload_n 1, 1) := by decide +kernel
theorem dX2_extendsPermit_1 : decode cX2_extendsPermit 1 = .ok (.ifnull 12, 3) := by decide +kernel
theorem dX2_extendsPermit_4 : decode cX2_extendsPermit 4 = .ok (.aload_n 0, 1) := by decide +kernel
theorem dX2_extendsPermit_5 : decode cX2_extendsPermit 5 = .ok (.aload_n 1, 1) := by decide +kernel
theorem dX2_extendsPermit_6 : decode cX2_extendsPermit 6 = .ok (.iload_n 2, 1) := by decide +kernel
theorem dX2_extendsPermit_7 : decode cX2_extendsPermit 7 = .ok (.invokevirtual 81, 3) := by decide +kernel
theorem dX2_extendsPermit_10 : decode cX2_extendsPermit 10 = .ok (.ifCond .ne 5, 3) := by decide +kernel
theorem dX2_extendsPermit_13 : decode cX2_extendsPermit 13 = .ok (.iconst 0, 1) := by decide +kernel
theorem dX2_extendsPermit_14 : decode cX2_extendsPermit 14 = .ok (.ireturn, 1) := by decide +kernel
theorem dX2_extendsPermit_15 : decode cX2_extendsPermit 15 = .ok (.aload_n 0, 1) := by decide +kernel
theorem dX2_extendsPermit_16 : decode cX2_extendsPermit 16 = .ok (.aload_n 1, 1) := by decide +kernel
theorem dX2_extendsPermit_17 : decode cX2_extendsPermit 17 = .ok (.iload_n 2, 1) := by decide +kernel
theorem dX2_extendsPermit_18 : decode cX2_extendsPermit 18 = .ok (.invokevirtual 85, 3) := by decide +kernel
theorem dX2_extendsPermit_21 : decode cX2_extendsPermit 21 = .ok (.iconst 1, 1) := by decide +kernel
theorem dX2_extendsPermit_22 : decode cX2_extendsPermit 22 = .ok (.ireturn, 1) := by decide +kernel
theorem dX2_buys_0 : decode cX2_buys 0 = .ok (.aload_n 0, 1) := by decide +kernel
theorem dX2_buys_1 : decode cX2_buys 1 = .ok (.iload_n 1, 1) := by decide +kernel
theorem dX2_buys_2 : decode cX2_buys 2 = .ok (.invokevirtual 89, 3) := by decide +kernel
theorem dX2_buys_5 : decode cX2_buys 5 = .ok (.ifCond .ne 5, 3) := by decide +kernel
theorem dX2_buys_8 : decode cX2_buys 8 = .ok (.iconst 0, 1) := by decide +kernel
theorem dX2_buys_9 : decode cX2_buys 9 = .ok (.ireturn, 1) := by decide +kernel
theorem dX2_buys_10 : decode cX2_buys 10 = .ok (.aload_n 0, 1) := by decide +kernel
theorem dX2_buys_11 : decode cX2_buys 11 = .ok (.iload_n 1, 1) := by decide +kernel
theorem dX2_buys_12 : decode cX2_buys 12 = .ok (.invokevirtual 93, 3) := by decide +kernel
theorem dX2_buys_15 : decode cX2_buys 15 = .ok (.iconst 1, 1) := by decide +kernel
theorem dX2_buys_16 : decode cX2_buys 16 = .ok (.ireturn, 1) := by decide +kernel
theorem dX2_isAt_0 : decode cX2_isAt 0 = .ok (.aload_n 0, 1) := by decide +kernel
theorem dX2_isAt_1 : decode cX2_isAt 1 = .ok (.ifnull 15, 3) := by decide +kernel
theorem dX2_isAt_4 : decode cX2_isAt 4 = .ok (.aload_n 0, 1) := by decide +kernel
theorem dX2_isAt_5 : decode cX2_isAt 5 = .ok (.getfield 96, 3) := by decide +kernel
theorem dX2_isAt_8 : decode cX2_isAt 8 = .ok (.iload_n 1, 1) := by decide +kernel
theorem dX2_isAt_9 : decode cX2_isAt 9 = .ok (.if_icmp .ne 7, 3) := by decide +kernel
theorem dX2_isAt_12 : decode cX2_isAt 12 = .ok (.iconst 1, 1) := by decide +kernel
theorem dX2_isAt_13 : decode cX2_isAt 13 = .ok (.goto 4, 3) := by decide +kernel
theorem dX2_isAt_16 : decode cX2_isAt 16 = .ok (.iconst 0, 1) := by decide +kernel
theorem dX2_isAt_17 : decode cX2_isAt 17 = .ok (.ireturn, 1) := by decide +kernel
theorem dX3_init_0 : decode cX3_init 0 = .ok (.aload_n 0, 1) := by decide +kernel
theorem dX3_init_1 : decode cX3_init 1 = .ok (.invokespecial 1, 3) := by decide +kernel
theorem dX3_init_4 : decode cX3_init 4 = .ok (.return_, 1) := by decide +kernel
theorem dX3_build_0 : decode cX3_build 0 = .ok (.aload_n 0, 1) := by decide +kernel
theorem dX3_build_1 : decode cX3_build 1 = .ok (.iload_n 1, 1) := by decide +kernel
theorem dX3_build_2 : decode cX3_build 2 = .ok (.putfield 7, 3) := by decide +kernel
theorem dX3_build_5 : decode cX3_build 5 = .ok (.aload_n 0, 1) := by decide +kernel
theorem dX3_build_6 : decode cX3_build 6 = .ok (.iload_n 2, 1) := by decide +kernel
theorem dX3_build_7 : decode cX3_build 7 = .ok (.putfield 13, 3) := by decide +kernel
theorem dX3_build_10 : decode cX3_build 10 = .ok (.aload_n 0, 1) := by decide +kernel
theorem dX3_build_11 : decode cX3_build 11 = .ok (.iload_n 3, 1) := by decide +kernel
theorem dX3_build_12 : decode cX3_build 12 = .ok (.putfield 16, 3) := by decide +kernel
theorem dX3_build_15 : decode cX3_build 15 = .ok (.aload_n 0, 1) := by decide +kernel
theorem dX3_build_16 : decode cX3_build 16 = .ok (.iload 4, 2) := by decide +kernel
theorem dX3_build_18 : decode cX3_build 18 = .ok (.putfield 19, 3) := by decide +kernel
theorem dX3_build_21 : decode cX3_build 21 = .ok (.aload_n 0, 1) := by decide +kernel
theorem dX3_build_22 : decode cX3_build 22 = .ok (.iconst 0, 1) := by decide +kernel
theorem dX3_build_23 : decode cX3_build 23 = .ok (.putfield 22, 3) := by decide +kernel
theorem dX3_build_26 : decode cX3_build 26 = .ok (.aload_n 0, 1) := by decide +kernel
theorem dX3_build_27 : decode cX3_build 27 = .ok (.iconst 0, 1) := by decide +kernel
theorem dX3_build_28 : decode cX3_build 28 = .ok (.putfield 25, 3) := by decide +kernel
theorem dX3_build_31 : decode cX3_build 31 = .ok (.aload_n 0, 1) := by decide +kernel
theorem dX3_build_32 : decode cX3_build 32 = .ok (.iconst 0, 1) := by decide +kernel
theorem dX3_build_33 : decode cX3_build 33 = .ok (.putfield 28, 3) := by decide +kernel
theorem dX3_build_36 : decode cX3_build 36 = .ok (.aload_n 0, 1) := by decide +kernel
theorem dX3_build_37 : decode cX3_build 37 = .ok (.iconst 0, 1) := by decide +kernel
theorem dX3_build_38 : decode cX3_build 38 = .ok (.putfield 31, 3) := by decide +kernel
theorem dX3_build_41 : decode cX3_build 41 = .ok (.return_, 1) := by decide +kernel
theorem dX3_copyFrom_0 : decode cX3_copyFrom 0 = .ok (.aload_n 0, 1) := by decide +kernel
theorem dX3_copyFrom_1 : decode cX3_copyFrom 1 = .ok (.aload_n 1, 1) := by decide +kernel
theorem dX3_copyFrom_2 : decode cX3_copyFrom 2 = .ok (.getfield 7, 3) := by decide +kernel
theorem dX3_copyFrom_5 : decode cX3_copyFrom 5 = .ok (.putfield 7, 3) := by decide +kernel
theorem dX3_copyFrom_8 : decode cX3_copyFrom 8 = .ok (.aload_n 0, 1) := by decide +kernel
theorem dX3_copyFrom_9 : decode cX3_copyFrom 9 = .ok (.aload_n 1, 1) := by decide +kernel
theorem dX3_copyFrom_10 : decode cX3_copyFrom 10 = .ok (.getfield 13, 3) := by decide +kernel
theorem dX3_copyFrom_13 : decode cX3_copyFrom 13 = .ok (.putfield 13, 3) := by decide +kernel
theorem dX3_copyFrom_16 : decode cX3_copyFrom 16 = .ok (.aload_n 0, 1) := by decide +kernel
theorem dX3_copyFrom_17 : decode cX3_copyFrom 17 = .ok (.aload_n 1, 1) := by decide +kernel
theorem dX3_copyFrom_18 : decode cX3_copyFrom 18 = .ok (.getfield 16, 3) := by decide +kernel
theorem dX3_copyFrom_21 : decode cX3_copyFrom 21 = .ok (.putfield 16, 3) := by decide +kernel
theorem dX3_copyFrom_24 : decode cX3_copyFrom 24 = .ok (.aload_n 0, 1) := by decide +kernel
theorem dX3_copyFrom_25 : decode cX3_copyFrom 25 = .ok (.aload_n 1, 1) := by decide +kernel
theorem dX3_copyFrom_26 : decode cX3_copyFrom 26 = .ok (.getfield 19, 3) := by decide +kernel
theorem dX3_copyFrom_29 : decode cX3_copyFrom 29 = .ok (.putfield 19, 3) := by decide +kernel
theorem dX3_copyFrom_32 : decode cX3_copyFrom 32 = .ok (.aload_n 0, 1) := by decide +kernel
theorem dX3_copyFrom_33 : decode cX3_copyFrom 33 = .ok (.aload_n 1, 1) := by decide +kernel
theorem dX3_copyFrom_34 : decode cX3_copyFrom 34 = .ok (.getfield 22, 3) := by decide +kernel
theorem dX3_copyFrom_37 : decode cX3_copyFrom 37 = .ok (.putfield 22, 3) := by decide +kernel
theorem dX3_copyFrom_40 : decode cX3_copyFrom 40 = .ok (.aload_n 0, 1) := by decide +kernel
theorem dX3_copyFrom_41 : decode cX3_copyFrom 41 = .ok (.aload_n 1, 1) := by decide +kernel
theorem dX3_copyFrom_42 : decode cX3_copyFrom 42 = .ok (.getfield 25, 3) := by decide +kernel
theorem dX3_copyFrom_45 : decode cX3_copyFrom 45 = .ok (.putfield 25, 3) := by decide +kernel
theorem dX3_copyFrom_48 : decode cX3_copyFrom 48 = .ok (.aload_n 0, 1) := by decide +kernel
theorem dX3_copyFrom_49 : decode cX3_copyFrom 49 = .ok (.aload_n 1, 1) := by decide +kernel
theorem dX3_copyFrom_50 : decode cX3_copyFrom 50 = .ok (.getfield 28, 3) := by decide +kernel
theorem dX3_copyFrom_53 : decode cX3_copyFrom 53 = .ok (.putfield 28, 3) := by decide +kernel
theorem dX3_copyFrom_56 : decode cX3_copyFrom 56 = .ok (.aload_n 0, 1) := by decide +kernel
theorem dX3_copyFrom_57 : decode cX3_copyFrom 57 = .ok (.aload_n 1, 1) := by decide +kernel
theorem dX3_copyFrom_58 : decode cX3_copyFrom 58 = .ok (.getfield 31, 3) := by decide +kernel
theorem dX3_copyFrom_61 : decode cX3_copyFrom 61 = .ok (.putfield 31, 3) := by decide +kernel
theorem dX3_copyFrom_64 : decode cX3_copyFrom 64 = .ok (.return_, 1) := by decide +kernel
theorem dX3_sail_0 : decode cX3_sail 0 = .ok (.aload_n 0, 1) := by decide +kernel
theorem dX3_sail_1 : decode cX3_sail 1 = .ok (.iload_n 1, 1) := by decide +kernel
theorem dX3_sail_2 : decode cX3_sail 2 = .ok (.putfield 25, 3) := by decide +kernel
theorem dX3_sail_5 : decode cX3_sail 5 = .ok (.aload_n 0, 1) := by decide +kernel
theorem dX3_sail_6 : decode cX3_sail 6 = .ok (.iload_n 2, 1) := by decide +kernel
theorem dX3_sail_7 : decode cX3_sail 7 = .ok (.putfield 28, 3) := by decide +kernel
theorem dX3_sail_10 : decode cX3_sail 10 = .ok (.return_, 1) := by decide +kernel
theorem dX3_sailOneDay_0 : decode cX3_sailOneDay 0 = .ok (.aload_n 0, 1) := by decide +kernel
theorem dX3_sailOneDay_1 : decode cX3_sailOneDay 1 = .ok (.getfield 25, 3) := by decide +kernel
theorem dX3_sailOneDay_4 : decode cX3_sailOneDay 4 = .ok (.iconst 1, 1) := by decide +kernel
theorem dX3_sailOneDay_5 : decode cX3_sailOneDay 5 = .ok (.if_icmp .eq 11, 3) := by decide +kernel
theorem dX3_sailOneDay_8 : decode cX3_sailOneDay 8 = .ok (.aload_n 0, 1) := by decide +kernel
theorem dX3_sailOneDay_9 : decode cX3_sailOneDay 9 = .ok (.getfield 25, 3) := by decide +kernel
theorem dX3_sailOneDay_12 : decode cX3_sailOneDay 12 = .ok (.iconst 4, 1) := by decide +kernel
theorem dX3_sailOneDay_13 : decode cX3_sailOneDay 13 = .ok (.if_icmp .ne 37, 3) := by decide +kernel
theorem dX3_sailOneDay_16 : decode cX3_sailOneDay 16 = .ok (.aload_n 0, 1) := by decide +kernel
theorem dX3_sailOneDay_17 : decode cX3_sailOneDay 17 = .ok (.dup, 1) := by decide +kernel
theorem dX3_sailOneDay_18 : decode cX3_sailOneDay 18 = .ok (.getfield 28, 3) := by decide +kernel
theorem dX3_sailOneDay_21 : decode cX3_sailOneDay 21 = .ok (.iconst 1, 1) := by decide +kernel
theorem dX3_sailOneDay_22 : decode cX3_sailOneDay 22 = .ok (.isub, 1) := by decide +kernel
theorem dX3_sailOneDay_23 : decode cX3_sailOneDay 23 = .ok (.putfield 28, 3) := by decide +kernel
theorem dX3_sailOneDay_26 : decode cX3_sailOneDay 26 = .ok (.aload_n 0, 1) := by decide +kernel
theorem dX3_sailOneDay_27 : decode cX3_sailOneDay 27 = .ok (.getfield 28, 3) := by decide +kernel
theorem dX3_sailOneDay_30 : decode cX3_sailOneDay 30 = .ok (.ifCond .ne 20, 3) := by decide +kernel
theorem dX3_sailOneDay_33 : decode cX3_sailOneDay 33 = .ok (.aload_n 0, 1) := by decide +kernel
theorem dX3_sailOneDay_34 : decode cX3_sailOneDay 34 = .ok (.aload_n 0, 1) := by decide +kernel
theorem dX3_sailOneDay_35 : decode cX3_sailOneDay 35 = .ok (.getfield 25, 3) := by decide +kernel
theorem dX3_sailOneDay_38 : decode cX3_sailOneDay 38 = .ok (.iconst 1, 1) := by decide +kernel
theorem dX3_sailOneDay_39 : decode cX3_sailOneDay 39 = .ok (.if_icmp .ne 7, 3) := by decide +kernel
theorem dX3_sailOneDay_42 : decode cX3_sailOneDay 42 = .ok (.iconst 2, 1) := by decide +kernel
theorem dX3_sailOneDay_43 : decode cX3_sailOneDay 43 = .ok (.goto 4, 3) := by decide +kernel
theorem dX3_sailOneDay_46 : decode cX3_sailOneDay 46 = .ok (.iconst 0, 1) := by decide +kernel
theorem dX3_sailOneDay_47 : decode cX3_sailOneDay 47 = .ok (.putfield 25, 3) := by decide +kernel
theorem dX3_sailOneDay_50 : decode cX3_sailOneDay 50 = .ok (.return_, 1) := by decide +kernel
theorem dX4_init_0 : decode cX4_init 0 = .ok (.aload_n 0, 1) := by decide +kernel
theorem dX4_init_1 : decode cX4_init 1 = .ok (.invokespecial 1, 3) := by decide +kernel
theorem dX4_init_4 : decode cX4_init 4 = .ok (.aload_n 0, 1) := by decide +kernel
theorem dX4_init_5 : decode cX4_init 5 = .ok (.new 7, 3) := by decide +kernel
theorem dX4_init_8 : decode cX4_init 8 = .ok (.dup, 1) := by decide +kernel
theorem dX4_init_9 : decode cX4_init 9 = .ok (.invokespecial 9, 3) := by decide +kernel
theorem dX4_init_12 : decode cX4_init 12 = .ok (.putfield 10, 3) := by decide +kernel
theorem dX4_init_15 : decode cX4_init 15 = .ok (.return_, 1) := by decide +kernel
