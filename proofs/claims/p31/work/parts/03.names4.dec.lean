theorem dL_tryAppend_0 : decode cL_tryAppend 0 = .ok (.aload_n 0, 1) := by decide +kernel
theorem dL_tryAppend_1 : decode cL_tryAppend 1 = .ok (.iload_n 1, 1) := by decide +kernel
theorem dL_tryAppend_2 : decode cL_tryAppend 2 = .ok (.invokevirtual 7, 3) := by decide +kernel
theorem dL_tryAppend_5 : decode cL_tryAppend 5 = .ok (.ireturn, 1) := by decide +kernel
theorem dL_tryAppend_6 : decode cL_tryAppend 6 = .ok (.astore_n 2, 1) := by decide +kernel
theorem dL_tryAppend_7 : decode cL_tryAppend 7 = .ok (.sipush (-1002), 3) := by decide +kernel
theorem dL_tryAppend_10 : decode cL_tryAppend 10 = .ok (.ireturn, 1) := by decide +kernel
theorem dL_tryAppend_11 : decode cL_tryAppend 11 = .ok (.astore_n 2, 1) := by decide +kernel
theorem dL_tryAppend_12 : decode cL_tryAppend 12 = .ok (.sipush (-1003), 3) := by decide +kernel
theorem dL_tryAppend_15 : decode cL_tryAppend 15 = .ok (.ireturn, 1) := by decide +kernel
theorem dL_tryLoad_0 : decode cL_tryLoad 0 = .ok (.aload_n 0, 1) := by decide +kernel
theorem dL_tryLoad_1 : decode cL_tryLoad 1 = .ok (.invokevirtual 17, 3) := by decide +kernel
theorem dL_tryLoad_4 : decode cL_tryLoad 4 = .ok (.ireturn, 1) := by decide +kernel
theorem dL_tryLoad_5 : decode cL_tryLoad 5 = .ok (.astore_n 1, 1) := by decide +kernel
theorem dL_tryLoad_6 : decode cL_tryLoad 6 = .ok (.sipush (-1003), 3) := by decide +kernel
theorem dL_tryLoad_9 : decode cL_tryLoad 9 = .ok (.ireturn, 1) := by decide +kernel
theorem dL_tryAbout_0 : decode cL_tryAbout 0 = .ok (.aload_n 0, 1) := by decide +kernel
theorem dL_tryAbout_1 : decode cL_tryAbout 1 = .ok (.iload_n 1, 1) := by decide +kernel
theorem dL_tryAbout_2 : decode cL_tryAbout 2 = .ok (.invokevirtual 21, 3) := by decide +kernel
theorem dL_tryAbout_5 : decode cL_tryAbout 5 = .ok (.ireturn, 1) := by decide +kernel
theorem dL_tryAbout_6 : decode cL_tryAbout 6 = .ok (.astore_n 2, 1) := by decide +kernel
theorem dL_tryAbout_7 : decode cL_tryAbout 7 = .ok (.sipush (-1002), 3) := by decide +kernel
theorem dL_tryAbout_10 : decode cL_tryAbout 10 = .ok (.ireturn, 1) := by decide +kernel
theorem dL_tryZone_0 : decode cL_tryZone 0 = .ok (.aload_n 0, 1) := by decide +kernel
theorem dL_tryZone_1 : decode cL_tryZone 1 = .ok (.iload_n 1, 1) := by decide +kernel
theorem dL_tryZone_2 : decode cL_tryZone 2 = .ok (.iload_n 2, 1) := by decide +kernel
theorem dL_tryZone_3 : decode cL_tryZone 3 = .ok (.invokevirtual 24, 3) := by decide +kernel
theorem dL_tryZone_6 : decode cL_tryZone 6 = .ok (.ireturn, 1) := by decide +kernel
theorem dL_tryZone_7 : decode cL_tryZone 7 = .ok (.astore_n 3, 1) := by decide +kernel
theorem dL_tryZone_8 : decode cL_tryZone 8 = .ok (.sipush (-1001), 3) := by decide +kernel
theorem dL_tryZone_11 : decode cL_tryZone 11 = .ok (.ireturn, 1) := by decide +kernel
theorem dL_tryZone_12 : decode cL_tryZone 12 = .ok (.astore_n 3, 1) := by decide +kernel
theorem dL_tryZone_13 : decode cL_tryZone 13 = .ok (.sipush (-1002), 3) := by decide +kernel
theorem dL_tryZone_16 : decode cL_tryZone 16 = .ok (.ireturn, 1) := by decide +kernel
theorem dL_tryShip_0 : decode cL_tryShip 0 = .ok (.aload_n 0, 1) := by decide +kernel
theorem dL_tryShip_1 : decode cL_tryShip 1 = .ok (.iload_n 1, 1) := by decide +kernel
theorem dL_tryShip_2 : decode cL_tryShip 2 = .ok (.iload_n 2, 1) := by decide +kernel
theorem dL_tryShip_3 : decode cL_tryShip 3 = .ok (.invokevirtual 30, 3) := by decide +kernel
theorem dL_tryShip_6 : decode cL_tryShip 6 = .ok (.ireturn, 1) := by decide +kernel
theorem dL_tryShip_7 : decode cL_tryShip 7 = .ok (.astore_n 3, 1) := by decide +kernel
theorem dL_tryShip_8 : decode cL_tryShip 8 = .ok (.sipush (-1001), 3) := by decide +kernel
theorem dL_tryShip_11 : decode cL_tryShip 11 = .ok (.ireturn, 1) := by decide +kernel
theorem dL_tryShip_12 : decode cL_tryShip 12 = .ok (.astore_n 3, 1) := by decide +kernel
theorem dL_tryShip_13 : decode cL_tryShip 13 = .ok (.sipush (-1002), 3) := by decide +kernel
theorem dL_tryShip_16 : decode cL_tryShip 16 = .ok (.ireturn, 1) := by decide +kernel
theorem dL_tryWaves_0 : decode cL_tryWaves 0 = .ok (.aload_n 0, 1) := by decide +kernel
theorem dL_tryWaves_1 : decode cL_tryWaves 1 = .ok (.iload_n 1, 1) := by decide +kernel
theorem dL_tryWaves_2 : decode cL_tryWaves 2 = .ok (.invokevirtual 33, 3) := by decide +kernel
theorem dL_tryWaves_5 : decode cL_tryWaves 5 = .ok (.ireturn, 1) := by decide +kernel
theorem dL_tryWaves_6 : decode cL_tryWaves 6 = .ok (.astore_n 2, 1) := by decide +kernel
theorem dL_tryWaves_7 : decode cL_tryWaves 7 = .ok (.sipush (-1002), 3) := by decide +kernel
theorem dL_tryWaves_10 : decode cL_tryWaves 10 = .ok (.ireturn, 1) := by decide +kernel
theorem dL_tryAccount_0 : decode cL_tryAccount 0 = .ok (.aload_n 0, 1) := by decide +kernel
theorem dL_tryAccount_1 : decode cL_tryAccount 1 = .ok (.iload_n 1, 1) := by decide +kernel
theorem dL_tryAccount_2 : decode cL_tryAccount 2 = .ok (.invokevirtual 36, 3) := by decide +kernel
theorem dL_tryAccount_5 : decode cL_tryAccount 5 = .ok (.ireturn, 1) := by decide +kernel
theorem dL_tryAccount_6 : decode cL_tryAccount 6 = .ok (.astore_n 2, 1) := by decide +kernel
theorem dL_tryAccount_7 : decode cL_tryAccount 7 = .ok (.sipush (-1002), 3) := by decide +kernel
theorem dL_tryAccount_10 : decode cL_tryAccount 10 = .ok (.ireturn, 1) := by decide +kernel
theorem dL_tryTake_0 : decode cL_tryTake 0 = .ok (.aload_n 0, 1) := by decide +kernel
theorem dL_tryTake_1 : decode cL_tryTake 1 = .ok (.iload_n 1, 1) := by decide +kernel
theorem dL_tryTake_2 : decode cL_tryTake 2 = .ok (.iload_n 2, 1) := by decide +kernel
theorem dL_tryTake_3 : decode cL_tryTake 3 = .ok (.invokevirtual 39, 3) := by decide +kernel
theorem dL_tryTake_6 : decode cL_tryTake 6 = .ok (.ireturn, 1) := by decide +kernel
theorem dL_tryTake_7 : decode cL_tryTake 7 = .ok (.astore_n 3, 1) := by decide +kernel
theorem dL_tryTake_8 : decode cL_tryTake 8 = .ok (.sipush (-1001), 3) := by decide +kernel
theorem dL_tryTake_11 : decode cL_tryTake 11 = .ok (.ireturn, 1) := by decide +kernel
theorem dL_tryTake_12 : decode cL_tryTake 12 = .ok (.astore_n 3, 1) := by decide +kernel
theorem dL_tryTake_13 : decode cL_tryTake 13 = .ok (.sipush (-1002), 3) := by decide +kernel
theorem dL_tryTake_16 : decode cL_tryTake 16 = .ok (.ireturn, 1) := by decide +kernel
theorem dL_tryTake_17 : decode cL_tryTake 17 = .ok (.astore_n 3, 1) := by decide +kernel
theorem dL_tryTake_18 : decode cL_tryTake 18 = .ok (.sipush (-1003), 3) := by decide +kernel
theorem dL_tryTake_21 : decode cL_tryTake 21 = .ok (.ireturn, 1) := by decide +kernel
theorem dL_trySend_0 : decode cL_trySend 0 = .ok (.aload_n 0, 1) := by decide +kernel
theorem dL_trySend_1 : decode cL_trySend 1 = .ok (.iload_n 1, 1) := by decide +kernel
theorem dL_trySend_2 : decode cL_trySend 2 = .ok (.invokevirtual 42, 3) := by decide +kernel
theorem dL_trySend_5 : decode cL_trySend 5 = .ok (.ireturn, 1) := by decide +kernel
theorem dL_trySend_6 : decode cL_trySend 6 = .ok (.astore_n 2, 1) := by decide +kernel
theorem dL_trySend_7 : decode cL_trySend 7 = .ok (.sipush (-1001), 3) := by decide +kernel
theorem dL_trySend_10 : decode cL_trySend 10 = .ok (.ireturn, 1) := by decide +kernel
theorem dL_trySend_11 : decode cL_trySend 11 = .ok (.astore_n 2, 1) := by decide +kernel
theorem dL_trySend_12 : decode cL_trySend 12 = .ok (.sipush (-1003), 3) := by decide +kernel
theorem dL_trySend_15 : decode cL_trySend 15 = .ok (.ireturn, 1) := by decide +kernel
theorem dL_tryRecall_0 : decode cL_tryRecall 0 = .ok (.aload_n 0, 1) := by decide +kernel
theorem dL_tryRecall_1 : decode cL_tryRecall 1 = .ok (.iload_n 1, 1) := by decide +kernel
theorem dL_tryRecall_2 : decode cL_tryRecall 2 = .ok (.invokevirtual 45, 3) := by decide +kernel
theorem dL_tryRecall_5 : decode cL_tryRecall 5 = .ok (.ireturn, 1) := by decide +kernel
theorem dL_tryRecall_6 : decode cL_tryRecall 6 = .ok (.astore_n 2, 1) := by decide +kernel
theorem dL_tryRecall_7 : decode cL_tryRecall 7 = .ok (.sipush (-1001), 3) := by decide +kernel
theorem dL_tryRecall_10 : decode cL_tryRecall 10 = .ok (.ireturn, 1) := by decide +kernel
theorem dL_tryRecall_11 : decode cL_tryRecall 11 = .ok (.astore_n 2, 1) := by decide +kernel
theorem dL_tryRecall_12 : decode cL_tryRecall 12 = .ok (.sipush (-1003), 3) := by decide +kernel
theorem dL_tryRecall_15 : decode cL_tryRecall 15 = .ok (.ireturn, 1) := by decide +kernel
theorem dL_tryExtend_0 : decode cL_tryExtend 0 = .ok (.aload_n 0, 1) := by decide +kernel
theorem dL_tryExtend_1 : decode cL_tryExtend 1 = .ok (.iload_n 1, 1) := by decide +kernel
theorem dL_tryExtend_2 : decode cL_tryExtend 2 = .ok (.iload_n 2, 1) := by decide +kernel
theorem dL_tryExtend_3 : decode cL_tryExtend 3 = .ok (.invokevirtual 48, 3) := by decide +kernel
theorem dL_tryExtend_6 : decode cL_tryExtend 6 = .ok (.ireturn, 1) := by decide +kernel
theorem dL_tryExtend_7 : decode cL_tryExtend 7 = .ok (.astore_n 3, 1) := by decide +kernel
theorem dL_tryExtend_8 : decode cL_tryExtend 8 = .ok (.sipush (-1001), 3) := by decide +kernel
theorem dL_tryExtend_11 : decode cL_tryExtend 11 = .ok (.ireturn, 1) := by decide +kernel
theorem dL_tryExtend_12 : decode cL_tryExtend 12 = .ok (.astore_n 3, 1) := by decide +kernel
theorem dL_tryExtend_13 : decode cL_tryExtend 13 = .ok (.sipush (-1002), 3) := by decide +kernel
theorem dL_tryExtend_16 : decode cL_tryExtend 16 = .ok (.ireturn, 1) := by decide +kernel
theorem dL_tryExtend_17 : decode cL_tryExtend 17 = .ok (.astore_n 3, 1) := by decide +kernel
theorem dL_tryExtend_18 : decode cL_tryExtend 18 = .ok (.sipush (-1003), 3) := by decide +kernel
theorem dL_tryExtend_21 : decode cL_tryExtend 21 = .ok (.ireturn, 1) := by decide +kernel
theorem dL_tryBuy_0 : decode cL_tryBuy 0 = .ok (.aload_n 0, 1) := by decide +kernel
theorem dL_tryBuy_1 : decode cL_tryBuy 1 = .ok (.iload_n 1, 1) := by decide +kernel
theorem dL_tryBuy_2 : decode cL_tryBuy 2 = .ok (.invokevirtual 51, 3) := by decide +kernel
theorem dL_tryBuy_5 : decode cL_tryBuy 5 = .ok (.ireturn, 1) := by decide +kernel
theorem dL_tryBuy_6 : decode cL_tryBuy 6 = .ok (.astore_n 2, 1) := by decide +kernel
theorem dL_tryBuy_7 : decode cL_tryBuy 7 = .ok (.sipush (-1002), 3) := by decide +kernel
theorem dL_tryBuy_10 : decode cL_tryBuy 10 = .ok (.ireturn, 1) := by decide +kernel
theorem dL_tryBuy_11 : decode cL_tryBuy 11 = .ok (.astore_n 2, 1) := by decide +kernel
theorem dL_tryBuy_12 : decode cL_tryBuy 12 = .ok (.sipush (-1003), 3) := by decide +kernel
theorem dL_tryBuy_15 : decode cL_tryBuy 15 = .ok (.ireturn, 1) := by decide +kernel
theorem dL_trySetWaves_0 : decode cL_trySetWaves 0 = .ok (.aload_n 0, 1) := by decide +kernel
theorem dL_trySetWaves_1 : decode cL_trySetWaves 1 = .ok (.iload_n 1, 1) := by decide +kernel
theorem dL_trySetWaves_2 : decode cL_trySetWaves 2 = .ok (.iload_n 2, 1) := by decide +kernel
theorem dL_trySetWaves_3 : decode cL_trySetWaves 3 = .ok (.invokevirtual 54, 3) := by decide +kernel
theorem dL_trySetWaves_6 : decode cL_trySetWaves 6 = .ok (.ireturn, 1) := by decide +kernel
theorem dL_trySetWaves_7 : decode cL_trySetWaves 7 = .ok (.astore_n 3, 1) := by decide +kernel
theorem dL_trySetWaves_8 : decode cL_trySetWaves 8 = .ok (.sipush (-1002), 3) := by decide +kernel
theorem dL_trySetWaves_11 : decode cL_trySetWaves 11 = .ok (.ireturn, 1) := by decide +kernel
theorem dL_tryPass_0 : decode cL_tryPass 0 = .ok (.aload_n 0, 1) := by decide +kernel
theorem dL_tryPass_1 : decode cL_tryPass 1 = .ok (.iload_n 1, 1) := by decide +kernel
theorem dL_tryPass_2 : decode cL_tryPass 2 = .ok (.invokevirtual 57, 3) := by decide +kernel
theorem dL_tryPass_5 : decode cL_tryPass 5 = .ok (.ireturn, 1) := by decide +kernel
theorem dL_tryPass_6 : decode cL_tryPass 6 = .ok (.astore_n 2, 1) := by decide +kernel
theorem dL_tryPass_7 : decode cL_tryPass 7 = .ok (.sipush (-1002), 3) := by decide +kernel
theorem dL_tryPass_10 : decode cL_tryPass 10 = .ok (.ireturn, 1) := by decide +kernel
theorem dL_tryUndo_0 : decode cL_tryUndo 0 = .ok (.aload_n 0, 1) := by decide +kernel
theorem dL_tryUndo_1 : decode cL_tryUndo 1 = .ok (.invokevirtual 60, 3) := by decide +kernel
theorem dL_tryUndo_4 : decode cL_tryUndo 4 = .ok (.ireturn, 1) := by decide +kernel
theorem dL_tryUndo_5 : decode cL_tryUndo 5 = .ok (.astore_n 1, 1) := by decide +kernel
theorem dL_tryUndo_6 : decode cL_tryUndo 6 = .ok (.sipush (-1003), 3) := by decide +kernel
theorem dL_tryUndo_9 : decode cL_tryUndo 9 = .ok (.ireturn, 1) := by decide +kernel
theorem dL_tryNeeds_0 : decode cL_tryNeeds 0 = .ok (.aload_n 0, 1) := by decide +kernel
theorem dL_tryNeeds_1 : decode cL_tryNeeds 1 = .ok (.iload_n 1, 1) := by decide +kernel
theorem dL_tryNeeds_2 : decode cL_tryNeeds 2 = .ok (.iload_n 2, 1) := by decide +kernel
theorem dL_tryNeeds_3 : decode cL_tryNeeds 3 = .ok (.invokevirtual 63, 3) := by decide +kernel
theorem dL_tryNeeds_6 : decode cL_tryNeeds 6 = .ok (.ireturn, 1) := by decide +kernel
theorem dL_tryNeeds_7 : decode cL_tryNeeds 7 = .ok (.astore_n 3, 1) := by decide +kernel
theorem dL_tryNeeds_8 : decode cL_tryNeeds 8 = .ok (.sipush (-1001), 3) := by decide +kernel
theorem dL_tryNeeds_11 : decode cL_tryNeeds 11 = .ok (.ireturn, 1) := by decide +kernel
theorem dL_tryNeeds_12 : decode cL_tryNeeds 12 = .ok (.astore_n 3, 1) := by decide +kernel
theorem dL_tryNeeds_13 : decode cL_tryNeeds 13 = .ok (.sipush (-1002), 3) := by decide +kernel
theorem dL_tryNeeds_16 : decode cL_tryNeeds 16 = .ok (.ireturn, 1) := by decide +kernel
theorem dL_tryReach_0 : decode cL_tryReach 0 = .ok (.aload_n 0, 1) := by decide +kernel
theorem dL_tryReach_1 : decode cL_tryReach 1 = .ok (.iload_n 1, 1) := by decide +kernel
theorem dL_tryReach_2 : decode cL_tryReach 2 = .ok (.iload_n 2, 1) := by decide +kernel
theorem dL_tryReach_3 : decode cL_tryReach 3 = .ok (.invokevirtual 66, 3) := by decide +kernel
theorem dL_tryReach_6 : decode cL_tryReach 6 = .ok (.ireturn, 1) := by decide +kernel
theorem dL_tryReach_7 : decode cL_tryReach 7 = .ok (.astore_n 3, 1) := by decide +kernel
theorem dL_tryReach_8 : decode cL_tryReach 8 = .ok (.sipush (-1001), 3) := by decide +kernel
theorem dL_tryReach_11 : decode cL_tryReach 11 = .ok (.ireturn, 1) := by decide +kernel
theorem dL_tryCalmDays_0 : decode cL_tryCalmDays 0 = .ok (.aload_n 0, 1) := by decide +kernel
theorem dL_tryCalmDays_1 : decode cL_tryCalmDays 1 = .ok (.iload_n 1, 1) := by decide +kernel
theorem dL_tryCalmDays_2 : decode cL_tryCalmDays 2 = .ok (.iload_n 2, 1) := by decide +kernel
theorem dL_tryCalmDays_3 : decode cL_tryCalmDays 3 = .ok (.invokevirtual 69, 3) := by decide +kernel
theorem dL_tryCalmDays_6 : decode cL_tryCalmDays 6 = .ok (.ireturn, 1) := by decide +kernel
theorem dL_tryCalmDays_7 : decode cL_tryCalmDays 7 = .ok (.astore_n 3, 1) := by decide +kernel
theorem dL_tryCalmDays_8 : decode cL_tryCalmDays 8 = .ok (.sipush (-1001), 3) := by decide +kernel
theorem dL_tryCalmDays_11 : decode cL_tryCalmDays 11 = .ok (.ireturn, 1) := by decide +kernel
theorem dL_tryAhead_0 : decode cL_tryAhead 0 = .ok (.aload_n 0, 1) := by decide +kernel
theorem dL_tryAhead_1 : decode cL_tryAhead 1 = .ok (.iload_n 1, 1) := by decide +kernel
theorem dL_tryAhead_2 : decode cL_tryAhead 2 = .ok (.iload_n 2, 1) := by decide +kernel
theorem dL_tryAhead_3 : decode cL_tryAhead 3 = .ok (.invokevirtual 72, 3) := by decide +kernel
theorem dL_tryAhead_6 : decode cL_tryAhead 6 = .ok (.ireturn, 1) := by decide +kernel
theorem dL_tryAhead_7 : decode cL_tryAhead 7 = .ok (.astore_n 3, 1) := by decide +kernel
theorem dL_tryAhead_8 : decode cL_tryAhead 8 = .ok (.sipush (-1002), 3) := by decide +kernel
theorem dL_tryAhead_11 : decode cL_tryAhead 11 = .ok (.ireturn, 1) := by decide +kernel
theorem dL_tryDoneAfter_0 : decode cL_tryDoneAfter 0 = .ok (.aload_n 0, 1) := by decide +kernel
theorem dL_tryDoneAfter_1 : decode cL_tryDoneAfter 1 = .ok (.iload_n 1, 1) := by decide +kernel
theorem dL_tryDoneAfter_2 : decode cL_tryDoneAfter 2 = .ok (.invokevirtual 75, 3) := by decide +kernel
theorem dL_tryDoneAfter_5 : decode cL_tryDoneAfter 5 = .ok (.ireturn, 1) := by decide +kernel
theorem dL_tryDoneAfter_6 : decode cL_tryDoneAfter 6 = .ok (.astore_n 2, 1) := by decide +kernel
theorem dL_tryDoneAfter_7 : decode cL_tryDoneAfter 7 = .ok (.sipush (-1001), 3) := by decide +kernel
theorem dL_tryDoneAfter_10 : decode cL_tryDoneAfter 10 = .ok (.ireturn, 1) := by decide +kernel
theorem dL_tryExtension_0 : decode cL_tryExtension 0 = .ok (.aload_n 0, 1) := by decide +kernel
theorem dL_tryExtension_1 : decode cL_tryExtension 1 = .ok (.iload_n 1, 1) := by decide +kernel
theorem dL_tryExtension_2 : decode cL_tryExtension 2 = .ok (.invokevirtual 78, 3) := by decide +kernel
theorem dL_tryExtension_5 : decode cL_tryExtension 5 = .ok (.ireturn, 1) := by decide +kernel
theorem dL_tryExtension_6 : decode cL_tryExtension 6 = .ok (.astore_n 2, 1) := by decide +kernel
theorem dL_tryExtension_7 : decode cL_tryExtension 7 = .ok (.sipush (-1001), 3) := by decide +kernel
theorem dL_tryExtension_10 : decode cL_tryExtension 10 = .ok (.ireturn, 1) := by decide +kernel
theorem dL_tryScript_0 : decode cL_tryScript 0 = .ok (.aload_n 0, 1) := by decide +kernel
theorem dL_tryScript_1 : decode cL_tryScript 1 = .ok (.iload_n 1, 1) := by decide +kernel
theorem dL_tryScript_2 : decode cL_tryScript 2 = .ok (.lload_n 2, 1) := by decide +kernel
theorem dL_tryScript_3 : decode cL_tryScript 3 = .ok (.invokevirtual 81, 3) := by decide +kernel
theorem dL_tryScript_6 : decode cL_tryScript 6 = .ok (.ireturn, 1) := by decide +kernel
theorem dL_tryScript_7 : decode cL_tryScript 7 = .ok (.astore 4, 2) := by decide +kernel
theorem dL_tryScript_9 : decode cL_tryScript 9 = .ok (.sipush (-1002), 3) := by decide +kernel
theorem dL_tryScript_12 : decode cL_tryScript 12 = .ok (.ireturn, 1) := by decide +kernel
theorem dL_trySimulate_0 : decode cL_trySimulate 0 = .ok (.aload_n 0, 1) := by decide +kernel
theorem dL_trySimulate_1 : decode cL_trySimulate 1 = .ok (.lload_n 1, 1) := by decide +kernel
theorem dL_trySimulate_2 : decode cL_trySimulate 2 = .ok (.iload_n 3, 1) := by decide +kernel
theorem dL_trySimulate_3 : decode cL_trySimulate 3 = .ok (.invokevirtual 85, 3) := by decide +kernel
theorem dL_trySimulate_6 : decode cL_trySimulate 6 = .ok (.ireturn, 1) := by decide +kernel
theorem dL_trySimulate_7 : decode cL_trySimulate 7 = .ok (.astore 4, 2) := by decide +kernel
theorem dL_trySimulate_9 : decode cL_trySimulate 9 = .ok (.sipush (-1002), 3) := by decide +kernel
theorem dL_trySimulate_12 : decode cL_trySimulate 12 = .ok (.ireturn, 1) := by decide +kernel
theorem dL_trySave_0 : decode cL_trySave 0 = .ok (.aload_n 0, 1) := by decide +kernel
theorem dL_trySave_1 : decode cL_trySave 1 = .ok (.iload_n 1, 1) := by decide +kernel
theorem dL_trySave_2 : decode cL_trySave 2 = .ok (.invokevirtual 89, 3) := by decide +kernel
theorem dL_trySave_5 : decode cL_trySave 5 = .ok (.ireturn, 1) := by decide +kernel
theorem dL_trySave_6 : decode cL_trySave 6 = .ok (.astore_n 2, 1) := by decide +kernel
theorem dL_trySave_7 : decode cL_trySave 7 = .ok (.sipush (-1001), 3) := by decide +kernel
theorem dL_trySave_10 : decode cL_trySave 10 = .ok (.ireturn, 1) := by decide +kernel
theorem dL_tryRestore_0 : decode cL_tryRestore 0 = .ok (.aload_n 0, 1) := by decide +kernel
theorem dL_tryRestore_1 : decode cL_tryRestore 1 = .ok (.iload_n 1, 1) := by decide +kernel
theorem dL_tryRestore_2 : decode cL_tryRestore 2 = .ok (.invokevirtual 92, 3) := by decide +kernel
theorem dL_tryRestore_5 : decode cL_tryRestore 5 = .ok (.ireturn, 1) := by decide +kernel
theorem dL_tryRestore_6 : decode cL_tryRestore 6 = .ok (.astore_n 2, 1) := by decide +kernel
theorem dL_tryRestore_7 : decode cL_tryRestore 7 = .ok (.sipush (-1001), 3) := by decide +kernel
theorem dL_tryRestore_10 : decode cL_tryRestore 10 = .ok (.ireturn, 1) := by decide +kernel
theorem dL_tryRestore_11 : decode cL_tryRestore 11 = .ok (.astore_n 2, 1) := by decide +kernel
theorem dL_tryRestore_12 : decode cL_tryRestore 12 = .ok (.sipush (-1003), 3) := by decide +kernel
theorem dL_tryRestore_15 : decode cL_tryRestore 15 = .ok (.ireturn, 1) := by decide +kernel
theorem dL_number_0 : decode cL_number 0 = .ok (.iload_n 1, 1) := by decide +kernel
theorem dL_number_1 : decode cL_number 1 = .ok (.aload_n 0, 1) := by decide +kernel
theorem dL_number_2 : decode cL_number 2 = .ok (.arraylength, 1) := by decide +kernel
theorem dL_number_3 : decode cL_number 3 = .ok (.if_icmp .ge 9, 3) := by decide +kernel
theorem dL_number_6 : decode cL_number 6 = .ok (.aload_n 0, 1) := by decide +kernel
theorem dL_number_7 : decode cL_number 7 = .ok (.iload_n 1, 1) := by decide +kernel
theorem dL_number_8 : decode cL_number 8 = .ok (.iaload, 1) := by decide +kernel
theorem dL_number_9 : decode cL_number 9 = .ok (.goto 13, 3) := by decide +kernel
theorem dL_number_12 : decode cL_number 12 = .ok (.ldc 95, 2) := by decide +kernel
theorem dL_number_14 : decode cL_number 14 = .ok (.iload_n 1, 1) := by decide +kernel
theorem dL_number_15 : decode cL_number 15 = .ok (.iconst 5, 1) := by decide +kernel
theorem dL_number_16 : decode cL_number 16 = .ok (.iadd, 1) := by decide +kernel
theorem dL_number_17 : decode cL_number 17 = .ok (.imul, 1) := by decide +kernel
theorem dL_number_18 : decode cL_number 18 = .ok (.sipush 10099, 3) := by decide +kernel
theorem dL_number_21 : decode cL_number 21 = .ok (.iadd, 1) := by decide +kernel
theorem dL_number_22 : decode cL_number 22 = .ok (.ldc 96, 2) := by decide +kernel
theorem dL_number_24 : decode cL_number 24 = .ok (.iand, 1) := by decide +kernel
theorem dL_number_25 : decode cL_number 25 = .ok (.ireturn, 1) := by decide +kernel
theorem dL_put_0 : decode cL_put 0 = .ok (.aload_n 0, 1) := by decide +kernel
theorem dL_put_1 : decode cL_put 1 = .ok (.iload_n 2, 1) := by decide +kernel
theorem dL_put_2 : decode cL_put 2 = .ok (.invokestatic 97, 3) := by decide +kernel
theorem dL_put_5 : decode cL_put 5 = .ok (.ifCond .le 15, 3) := by decide +kernel
theorem dL_put_8 : decode cL_put 8 = .ok (.aload_n 1, 1) := by decide +kernel
theorem dL_put_9 : decode cL_put 9 = .ok (.iload_n 2, 1) := by decide +kernel
theorem dL_put_10 : decode cL_put 10 = .ok (.invokestatic 97, 3) := by decide +kernel
theorem dL_put_13 : decode cL_put 13 = .ok (.ifCond .le 7, 3) := by decide +kernel
theorem dL_put_16 : decode cL_put 16 = .ok (.iconst 1, 1) := by decide +kernel
theorem dL_put_17 : decode cL_put 17 = .ok (.goto 4, 3) := by decide +kernel
theorem dL_put_20 : decode cL_put 20 = .ok (.iconst 0, 1) := by decide +kernel
theorem dL_put_21 : decode cL_put 21 = .ok (.ireturn, 1) := by decide +kernel
theorem dL_digits_0 : decode cL_digits 0 = .ok (.iconst 1, 1) := by decide +kernel
theorem dL_digits_1 : decode cL_digits 1 = .ok (.istore 4, 2) := by decide +kernel
theorem dL_digits_3 : decode cL_digits 3 = .ok (.iload_n 3, 1) := by decide +kernel
theorem dL_digits_4 : decode cL_digits 4 = .ok (.istore 5, 2) := by decide +kernel
theorem dL_digits_6 : decode cL_digits 6 = .ok (.iload 5, 2) := by decide +kernel
theorem dL_digits_8 : decode cL_digits 8 = .ok (.ifCond .le 43, 3) := by decide +kernel
theorem dL_digits_11 : decode cL_digits 11 = .ok (.iload 4, 2) := by decide +kernel
theorem dL_digits_13 : decode cL_digits 13 = .ok (.ifCond .eq 25, 3) := by decide +kernel
theorem dL_digits_16 : decode cL_digits 16 = .ok (.aload_n 0, 1) := by decide +kernel
theorem dL_digits_17 : decode cL_digits 17 = .ok (.aload_n 1, 1) := by decide +kernel
theorem dL_digits_18 : decode cL_digits 18 = .ok (.bipush 48, 2) := by decide +kernel
theorem dL_digits_20 : decode cL_digits 20 = .ok (.iload_n 2, 1) := by decide +kernel
theorem dL_digits_21 : decode cL_digits 21 = .ok (.iload 5, 2) := by decide +kernel
theorem dL_digits_23 : decode cL_digits 23 = .ok (.idiv, 1) := by decide +kernel
theorem dL_digits_24 : decode cL_digits 24 = .ok (.bipush 10, 2) := by decide +kernel
theorem dL_digits_26 : decode cL_digits 26 = .ok (.irem, 1) := by decide +kernel
theorem dL_digits_27 : decode cL_digits 27 = .ok (.iadd, 1) := by decide +kernel
theorem dL_digits_28 : decode cL_digits 28 = .ok (.invokestatic 103, 3) := by decide +kernel
theorem dL_digits_31 : decode cL_digits 31 = .ok (.ifCond .eq 7, 3) := by decide +kernel
theorem dL_digits_34 : decode cL_digits 34 = .ok (.iconst 1, 1) := by decide +kernel
theorem dL_digits_35 : decode cL_digits 35 = .ok (.goto 4, 3) := by decide +kernel
theorem dL_digits_38 : decode cL_digits 38 = .ok (.iconst 0, 1) := by decide +kernel
theorem dL_digits_39 : decode cL_digits 39 = .ok (.istore 4, 2) := by decide +kernel
theorem dL_digits_41 : decode cL_digits 41 = .ok (.iload 5, 2) := by decide +kernel
theorem dL_digits_43 : decode cL_digits 43 = .ok (.bipush 10, 2) := by decide +kernel
theorem dL_digits_45 : decode cL_digits 45 = .ok (.idiv, 1) := by decide +kernel
theorem dL_digits_46 : decode cL_digits 46 = .ok (.istore 5, 2) := by decide +kernel
theorem dL_digits_48 : decode cL_digits 48 = .ok (.goto (-42), 3) := by decide +kernel
theorem dL_digits_51 : decode cL_digits 51 = .ok (.iload 4, 2) := by decide +kernel
theorem dL_digits_53 : decode cL_digits 53 = .ok (.ireturn, 1) := by decide +kernel
theorem dL_told_0 : decode cL_told 0 = .ok (.aload_n 2, 1) := by decide +kernel
theorem dL_told_1 : decode cL_told 1 = .ok (.iload_n 3, 1) := by decide +kernel
theorem dL_told_2 : decode cL_told 2 = .ok (.invokestatic 107, 3) := by decide +kernel
theorem dL_told_5 : decode cL_told 5 = .ok (.istore 4, 2) := by decide +kernel
theorem dL_told_7 : decode cL_told 7 = .ok (.iconst 1, 1) := by decide +kernel
theorem dL_told_8 : decode cL_told 8 = .ok (.iload 4, 2) := by decide +kernel
theorem dL_told_10 : decode cL_told 10 = .ok (.iconst 4, 1) := by decide +kernel
theorem dL_told_11 : decode cL_told 11 = .ok (.irem, 1) := by decide +kernel
theorem dL_told_12 : decode cL_told 12 = .ok (.iadd, 1) := by decide +kernel
theorem dL_told_13 : decode cL_told 13 = .ok (.istore 5, 2) := by decide +kernel
theorem dL_told_15 : decode cL_told 15 = .ok (.iconst 1, 1) := by decide +kernel
theorem dL_told_16 : decode cL_told 16 = .ok (.iload 4, 2) := by decide +kernel
theorem dL_told_18 : decode cL_told 18 = .ok (.iconst 4, 1) := by decide +kernel
theorem dL_told_19 : decode cL_told 19 = .ok (.idiv, 1) := by decide +kernel
theorem dL_told_20 : decode cL_told 20 = .ok (.iconst 4, 1) := by decide +kernel
theorem dL_told_21 : decode cL_told 21 = .ok (.irem, 1) := by decide +kernel
theorem dL_told_22 : decode cL_told 22 = .ok (.iadd, 1) := by decide +kernel
theorem dL_told_23 : decode cL_told 23 = .ok (.istore 6, 2) := by decide +kernel
theorem dL_told_25 : decode cL_told 25 = .ok (.iconst 1, 1) := by decide +kernel
theorem dL_told_26 : decode cL_told 26 = .ok (.iload 4, 2) := by decide +kernel
theorem dL_told_28 : decode cL_told 28 = .ok (.bipush 16, 2) := by decide +kernel
theorem dL_told_30 : decode cL_told 30 = .ok (.idiv, 1) := by decide +kernel
theorem dL_told_31 : decode cL_told 31 = .ok (.bipush 9, 2) := by decide +kernel
theorem dL_told_33 : decode cL_told 33 = .ok (.irem, 1) := by decide +kernel
theorem dL_told_34 : decode cL_told 34 = .ok (.iadd, 1) := by decide +kernel
theorem dL_told_35 : decode cL_told 35 = .ok (.istore 7, 2) := by decide +kernel
theorem dL_told_37 : decode cL_told 37 = .ok (.iload 4, 2) := by decide +kernel
theorem dL_told_39 : decode cL_told 39 = .ok (.sipush 256, 3) := by decide +kernel
theorem dL_told_42 : decode cL_told 42 = .ok (.idiv, 1) := by decide +kernel
theorem dL_told_43 : decode cL_told 43 = .ok (.sipush 1000, 3) := by decide +kernel
theorem dL_told_46 : decode cL_told 46 = .ok (.irem, 1) := by decide +kernel
theorem dL_told_47 : decode cL_told 47 = .ok (.istore 8, 2) := by decide +kernel
theorem dL_told_49 : decode cL_told 49 = .ok (.aload_n 0, 1) := by decide +kernel
theorem dL_told_50 : decode cL_told 50 = .ok (.invokevirtual 111, 3) := by decide +kernel
theorem dL_told_53 : decode cL_told 53 = .ok (.aload_n 1, 1) := by decide +kernel
theorem dL_told_54 : decode cL_told 54 = .ok (.invokevirtual 111, 3) := by decide +kernel
theorem dL_told_57 : decode cL_told 57 = .ok (.if_icmp .ne 83, 3) := by decide +kernel
theorem dL_told_60 : decode cL_told 60 = .ok (.aload_n 0, 1) := by decide +kernel
theorem dL_told_61 : decode cL_told 61 = .ok (.aload_n 1, 1) := by decide +kernel
theorem dL_told_62 : decode cL_told 62 = .ok (.bipush 67, 2) := by decide +kernel
theorem dL_told_64 : decode cL_told 64 = .ok (.invokestatic 103, 3) := by decide +kernel
theorem dL_told_67 : decode cL_told 67 = .ok (.ifCond .eq 73, 3) := by decide +kernel
theorem dL_told_70 : decode cL_told 70 = .ok (.aload_n 0, 1) := by decide +kernel
theorem dL_told_71 : decode cL_told 71 = .ok (.aload_n 1, 1) := by decide +kernel
theorem dL_told_72 : decode cL_told 72 = .ok (.bipush 49, 2) := by decide +kernel
theorem dL_told_74 : decode cL_told 74 = .ok (.iload 4, 2) := by decide +kernel
theorem dL_told_76 : decode cL_told 76 = .ok (.ldc 114, 2) := by decide +kernel
theorem dL_told_78 : decode cL_told 78 = .ok (.idiv, 1) := by decide +kernel
theorem dL_told_79 : decode cL_told 79 = .ok (.iconst 3, 1) := by decide +kernel
theorem dL_told_80 : decode cL_told 80 = .ok (.irem, 1) := by decide +kernel
theorem dL_told_81 : decode cL_told 81 = .ok (.iadd, 1) := by decide +kernel
theorem dL_told_82 : decode cL_told 82 = .ok (.invokestatic 103, 3) := by decide +kernel
theorem dL_told_85 : decode cL_told 85 = .ok (.ifCond .eq 55, 3) := by decide +kernel
theorem dL_told_88 : decode cL_told 88 = .ok (.aload_n 0, 1) := by decide +kernel
theorem dL_told_89 : decode cL_told 89 = .ok (.invokevirtual 115, 3) := by decide +kernel
theorem dL_told_92 : decode cL_told 92 = .ok (.iconst 2, 1) := by decide +kernel
theorem dL_told_93 : decode cL_told 93 = .ok (.if_icmp .ne 47, 3) := by decide +kernel
theorem dL_told_96 : decode cL_told 96 = .ok (.aload_n 0, 1) := by decide +kernel
theorem dL_told_97 : decode cL_told 97 = .ok (.aload_n 1, 1) := by decide +kernel
theorem dL_told_98 : decode cL_told 98 = .ok (.bipush 49, 2) := by decide +kernel
theorem dL_told_100 : decode cL_told 100 = .ok (.iload 4, 2) := by decide +kernel
theorem dL_told_102 : decode cL_told 102 = .ok (.ldc 118, 2) := by decide +kernel
theorem dL_told_104 : decode cL_told 104 = .ok (.idiv, 1) := by decide +kernel
theorem dL_told_105 : decode cL_told 105 = .ok (.iconst 3, 1) := by decide +kernel
theorem dL_told_106 : decode cL_told 106 = .ok (.irem, 1) := by decide +kernel
theorem dL_told_107 : decode cL_told 107 = .ok (.iadd, 1) := by decide +kernel
theorem dL_told_108 : decode cL_told 108 = .ok (.invokestatic 103, 3) := by decide +kernel
theorem dL_told_111 : decode cL_told 111 = .ok (.ifCond .eq 29, 3) := by decide +kernel
theorem dL_told_114 : decode cL_told 114 = .ok (.aload_n 0, 1) := by decide +kernel
theorem dL_told_115 : decode cL_told 115 = .ok (.aload_n 1, 1) := by decide +kernel
theorem dL_told_116 : decode cL_told 116 = .ok (.iload 8, 2) := by decide +kernel
theorem dL_told_118 : decode cL_told 118 = .ok (.sipush 1000, 3) := by decide +kernel
theorem dL_told_121 : decode cL_told 121 = .ok (.invokestatic 119, 3) := by decide +kernel
theorem dL_told_124 : decode cL_told 124 = .ok (.ifCond .eq 16, 3) := by decide +kernel
theorem dL_told_127 : decode cL_told 127 = .ok (.aload_n 0, 1) := by decide +kernel
theorem dL_told_128 : decode cL_told 128 = .ok (.invokevirtual 115, 3) := by decide +kernel
theorem dL_told_131 : decode cL_told 131 = .ok (.bipush 7, 2) := by decide +kernel
theorem dL_told_133 : decode cL_told 133 = .ok (.if_icmp .ne 7, 3) := by decide +kernel
theorem dL_told_136 : decode cL_told 136 = .ok (.iconst 1, 1) := by decide +kernel
theorem dL_told_137 : decode cL_told 137 = .ok (.goto 4, 3) := by decide +kernel
theorem dL_told_140 : decode cL_told 140 = .ok (.iconst 0, 1) := by decide +kernel
theorem dL_told_141 : decode cL_told 141 = .ok (.istore 9, 2) := by decide +kernel
theorem dL_told_143 : decode cL_told 143 = .ok (.iconst 0, 1) := by decide +kernel
theorem dL_told_144 : decode cL_told 144 = .ok (.istore 10, 2) := by decide +kernel
theorem dL_told_146 : decode cL_told 146 = .ok (.iload 10, 2) := by decide +kernel
theorem dL_told_148 : decode cL_told 148 = .ok (.iload 5, 2) := by decide +kernel
theorem dL_told_150 : decode cL_told 150 = .ok (.if_icmp .ge 160, 3) := by decide +kernel
theorem dL_told_153 : decode cL_told 153 = .ok (.iload 9, 2) := by decide +kernel
theorem dL_told_155 : decode cL_told 155 = .ok (.ifCond .eq 155, 3) := by decide +kernel
theorem dL_told_158 : decode cL_told 158 = .ok (.aload_n 2, 1) := by decide +kernel
theorem dL_told_159 : decode cL_told 159 = .ok (.iload_n 3, 1) := by decide +kernel
theorem dL_told_160 : decode cL_told 160 = .ok (.iconst 1, 1) := by decide +kernel
theorem dL_told_161 : decode cL_told 161 = .ok (.iadd, 1) := by decide +kernel
theorem dL_told_162 : decode cL_told 162 = .ok (.iload 10, 2) := by decide +kernel
theorem dL_told_164 : decode cL_told 164 = .ok (.iadd, 1) := by decide +kernel
theorem dL_told_165 : decode cL_told 165 = .ok (.invokestatic 107, 3) := by decide +kernel
theorem dL_told_168 : decode cL_told 168 = .ok (.istore 11, 2) := by decide +kernel
theorem dL_told_170 : decode cL_told 170 = .ok (.iload 11, 2) := by decide +kernel
theorem dL_told_172 : decode cL_told 172 = .ok (.bipush 64, 2) := by decide +kernel
theorem dL_told_174 : decode cL_told 174 = .ok (.idiv, 1) := by decide +kernel
theorem dL_told_175 : decode cL_told 175 = .ok (.bipush 20, 2) := by decide +kernel
theorem dL_told_177 : decode cL_told 177 = .ok (.irem, 1) := by decide +kernel
theorem dL_told_178 : decode cL_told 178 = .ok (.istore 12, 2) := by decide +kernel
theorem dL_told_180 : decode cL_told 180 = .ok (.iload 12, 2) := by decide +kernel
theorem dL_told_182 : decode cL_told 182 = .ok (.iload 11, 2) := by decide +kernel
theorem dL_told_184 : decode cL_told 184 = .ok (.sipush 2048, 3) := by decide +kernel
theorem dL_told_187 : decode cL_told 187 = .ok (.idiv, 1) := by decide +kernel
theorem dL_told_188 : decode cL_told 188 = .ok (.bipush 100, 2) := by decide +kernel
theorem dL_told_190 : decode cL_told 190 = .ok (.iload 12, 2) := by decide +kernel
theorem dL_told_192 : decode cL_told 192 = .ok (.isub, 1) := by decide +kernel
theorem dL_told_193 : decode cL_told 193 = .ok (.irem, 1) := by decide +kernel
theorem dL_told_194 : decode cL_told 194 = .ok (.iadd, 1) := by decide +kernel
theorem dL_told_195 : decode cL_told 195 = .ok (.istore 13, 2) := by decide +kernel
theorem dL_told_197 : decode cL_told 197 = .ok (.aload_n 0, 1) := by decide +kernel
theorem dL_told_198 : decode cL_told 198 = .ok (.aload_n 1, 1) := by decide +kernel
theorem dL_told_199 : decode cL_told 199 = .ok (.bipush 122, 2) := by decide +kernel
theorem dL_told_201 : decode cL_told 201 = .ok (.invokestatic 103, 3) := by decide +kernel
theorem dL_told_204 : decode cL_told 204 = .ok (.ifCond .eq 97, 3) := by decide +kernel
theorem dL_told_207 : decode cL_told 207 = .ok (.aload_n 0, 1) := by decide +kernel
theorem dL_told_208 : decode cL_told 208 = .ok (.aload_n 1, 1) := by decide +kernel
theorem dL_told_209 : decode cL_told 209 = .ok (.iconst 1, 1) := by decide +kernel
theorem dL_told_210 : decode cL_told 210 = .ok (.iload 11, 2) := by decide +kernel
theorem dL_told_212 : decode cL_told 212 = .ok (.bipush 40, 2) := by decide +kernel
theorem dL_told_214 : decode cL_told 214 = .ok (.irem, 1) := by decide +kernel
theorem dL_told_215 : decode cL_told 215 = .ok (.iadd, 1) := by decide +kernel
theorem dL_told_216 : decode cL_told 216 = .ok (.bipush 10, 2) := by decide +kernel
theorem dL_told_218 : decode cL_told 218 = .ok (.invokestatic 119, 3) := by decide +kernel
theorem dL_told_221 : decode cL_told 221 = .ok (.ifCond .eq 80, 3) := by decide +kernel
theorem dL_told_224 : decode cL_told 224 = .ok (.aload_n 0, 1) := by decide +kernel
theorem dL_told_225 : decode cL_told 225 = .ok (.aload_n 1, 1) := by decide +kernel
theorem dL_told_226 : decode cL_told 226 = .ok (.iload 12, 2) := by decide +kernel
theorem dL_told_228 : decode cL_told 228 = .ok (.bipush 10, 2) := by decide +kernel
theorem dL_told_230 : decode cL_told 230 = .ok (.invokestatic 119, 3) := by decide +kernel
theorem dL_told_233 : decode cL_told 233 = .ok (.ifCond .eq 68, 3) := by decide +kernel
theorem dL_told_236 : decode cL_told 236 = .ok (.aload_n 0, 1) := by decide +kernel
theorem dL_told_237 : decode cL_told 237 = .ok (.invokevirtual 115, 3) := by decide +kernel
theorem dL_told_240 : decode cL_told 240 = .ok (.bipush 12, 2) := by decide +kernel
theorem dL_told_242 : decode cL_told 242 = .ok (.bipush 8, 2) := by decide +kernel
theorem dL_told_244 : decode cL_told 244 = .ok (.iload 10, 2) := by decide +kernel
theorem dL_told_246 : decode cL_told 246 = .ok (.imul, 1) := by decide +kernel
theorem dL_told_247 : decode cL_told 247 = .ok (.iadd, 1) := by decide +kernel
theorem dL_told_248 : decode cL_told 248 = .ok (.if_icmp .ne 53, 3) := by decide +kernel
theorem dL_told_251 : decode cL_told 251 = .ok (.aload_n 0, 1) := by decide +kernel
theorem dL_told_252 : decode cL_told 252 = .ok (.aload_n 1, 1) := by decide +kernel
theorem dL_told_253 : decode cL_told 253 = .ok (.iload 13, 2) := by decide +kernel
theorem dL_told_255 : decode cL_told 255 = .ok (.bipush 10, 2) := by decide +kernel
theorem dL_told_257 : decode cL_told 257 = .ok (.invokestatic 119, 3) := by decide +kernel
theorem dL_told_260 : decode cL_told 260 = .ok (.ifCond .eq 41, 3) := by decide +kernel
theorem dL_told_263 : decode cL_told 263 = .ok (.aload_n 0, 1) := by decide +kernel
theorem dL_told_264 : decode cL_told 264 = .ok (.aload_n 1, 1) := by decide +kernel
theorem dL_told_265 : decode cL_told 265 = .ok (.bipush 48, 2) := by decide +kernel
theorem dL_told_267 : decode cL_told 267 = .ok (.iload 11, 2) := by decide +kernel
theorem dL_told_269 : decode cL_told 269 = .ok (.ldc 123, 2) := by decide +kernel
theorem dL_told_271 : decode cL_told 271 = .ok (.idiv, 1) := by decide +kernel
theorem dL_told_272 : decode cL_told 272 = .ok (.bipush 10, 2) := by decide +kernel
theorem dL_told_274 : decode cL_told 274 = .ok (.irem, 1) := by decide +kernel
theorem dL_told_275 : decode cL_told 275 = .ok (.iadd, 1) := by decide +kernel
theorem dL_told_276 : decode cL_told 276 = .ok (.invokestatic 103, 3) := by decide +kernel
theorem dL_told_279 : decode cL_told 279 = .ok (.ifCond .eq 22, 3) := by decide +kernel
theorem dL_told_282 : decode cL_told 282 = .ok (.aload_n 0, 1) := by decide +kernel
theorem dL_told_283 : decode cL_told 283 = .ok (.invokevirtual 115, 3) := by decide +kernel
theorem dL_told_286 : decode cL_told 286 = .ok (.bipush 15, 2) := by decide +kernel
theorem dL_told_288 : decode cL_told 288 = .ok (.bipush 8, 2) := by decide +kernel
theorem dL_told_290 : decode cL_told 290 = .ok (.iload 10, 2) := by decide +kernel
theorem dL_told_292 : decode cL_told 292 = .ok (.imul, 1) := by decide +kernel
theorem dL_told_293 : decode cL_told 293 = .ok (.iadd, 1) := by decide +kernel
theorem dL_told_294 : decode cL_told 294 = .ok (.if_icmp .ne 7, 3) := by decide +kernel
theorem dL_told_297 : decode cL_told 297 = .ok (.iconst 1, 1) := by decide +kernel
theorem dL_told_298 : decode cL_told 298 = .ok (.goto 4, 3) := by decide +kernel
theorem dL_told_301 : decode cL_told 301 = .ok (.iconst 0, 1) := by decide +kernel
theorem dL_told_302 : decode cL_told 302 = .ok (.istore 9, 2) := by decide +kernel
theorem dL_told_304 : decode cL_told 304 = .ok (.iinc 10 1, 3) := by decide +kernel
theorem dL_told_307 : decode cL_told 307 = .ok (.goto (-161), 3) := by decide +kernel
theorem dL_told_310 : decode cL_told 310 = .ok (.bipush 7, 2) := by decide +kernel
theorem dL_told_312 : decode cL_told 312 = .ok (.bipush 8, 2) := by decide +kernel
theorem dL_told_314 : decode cL_told 314 = .ok (.iload 5, 2) := by decide +kernel
theorem dL_told_316 : decode cL_told 316 = .ok (.imul, 1) := by decide +kernel
theorem dL_told_317 : decode cL_told 317 = .ok (.iadd, 1) := by decide +kernel
theorem dL_told_318 : decode cL_told 318 = .ok (.istore 10, 2) := by decide +kernel
theorem dL_told_320 : decode cL_told 320 = .ok (.iconst 0, 1) := by decide +kernel
theorem dL_told_321 : decode cL_told 321 = .ok (.istore 11, 2) := by decide +kernel
theorem dL_told_323 : decode cL_told 323 = .ok (.iload 11, 2) := by decide +kernel
theorem dL_told_325 : decode cL_told 325 = .ok (.iload 6, 2) := by decide +kernel
theorem dL_told_327 : decode cL_told 327 = .ok (.if_icmp .ge 159, 3) := by decide +kernel
theorem dL_told_330 : decode cL_told 330 = .ok (.iload 9, 2) := by decide +kernel
theorem dL_told_332 : decode cL_told 332 = .ok (.ifCond .eq 154, 3) := by decide +kernel
theorem dL_told_335 : decode cL_told 335 = .ok (.aload_n 2, 1) := by decide +kernel
theorem dL_told_336 : decode cL_told 336 = .ok (.iload_n 3, 1) := by decide +kernel
theorem dL_told_337 : decode cL_told 337 = .ok (.iconst 5, 1) := by decide +kernel
theorem dL_told_338 : decode cL_told 338 = .ok (.iadd, 1) := by decide +kernel
theorem dL_told_339 : decode cL_told 339 = .ok (.iload 11, 2) := by decide +kernel
theorem dL_told_341 : decode cL_told 341 = .ok (.iadd, 1) := by decide +kernel
theorem dL_told_342 : decode cL_told 342 = .ok (.invokestatic 107, 3) := by decide +kernel
theorem dL_told_345 : decode cL_told 345 = .ok (.istore 12, 2) := by decide +kernel
theorem dL_told_347 : decode cL_told 347 = .ok (.aload_n 0, 1) := by decide +kernel
theorem dL_told_348 : decode cL_told 348 = .ok (.aload_n 1, 1) := by decide +kernel
theorem dL_told_349 : decode cL_told 349 = .ok (.bipush 115, 2) := by decide +kernel
theorem dL_told_351 : decode cL_told 351 = .ok (.invokestatic 103, 3) := by decide +kernel
theorem dL_told_354 : decode cL_told 354 = .ok (.ifCond .eq 123, 3) := by decide +kernel
theorem dL_told_357 : decode cL_told 357 = .ok (.aload_n 0, 1) := by decide +kernel
theorem dL_told_358 : decode cL_told 358 = .ok (.aload_n 1, 1) := by decide +kernel
theorem dL_told_359 : decode cL_told 359 = .ok (.bipush 10, 2) := by decide +kernel
theorem dL_told_361 : decode cL_told 361 = .ok (.iload 12, 2) := by decide +kernel
theorem dL_told_363 : decode cL_told 363 = .ok (.sipush 150, 3) := by decide +kernel
theorem dL_told_366 : decode cL_told 366 = .ok (.irem, 1) := by decide +kernel
theorem dL_told_367 : decode cL_told 367 = .ok (.iadd, 1) := by decide +kernel
theorem dL_told_368 : decode cL_told 368 = .ok (.bipush 100, 2) := by decide +kernel
theorem dL_told_370 : decode cL_told 370 = .ok (.invokestatic 119, 3) := by decide +kernel
theorem dL_told_373 : decode cL_told 373 = .ok (.ifCond .eq 104, 3) := by decide +kernel
theorem dL_told_376 : decode cL_told 376 = .ok (.aload_n 0, 1) := by decide +kernel
theorem dL_told_377 : decode cL_told 377 = .ok (.aload_n 1, 1) := by decide +kernel
theorem dL_told_378 : decode cL_told 378 = .ok (.iconst 1, 1) := by decide +kernel
theorem dL_told_379 : decode cL_told 379 = .ok (.iload 12, 2) := by decide +kernel
theorem dL_told_381 : decode cL_told 381 = .ok (.sipush 256, 3) := by decide +kernel
theorem dL_told_384 : decode cL_told 384 = .ok (.idiv, 1) := by decide +kernel
theorem dL_told_385 : decode cL_told 385 = .ok (.bipush 20, 2) := by decide +kernel
theorem dL_told_387 : decode cL_told 387 = .ok (.irem, 1) := by decide +kernel
theorem dL_told_388 : decode cL_told 388 = .ok (.iadd, 1) := by decide +kernel
theorem dL_told_389 : decode cL_told 389 = .ok (.bipush 10, 2) := by decide +kernel
theorem dL_told_391 : decode cL_told 391 = .ok (.invokestatic 119, 3) := by decide +kernel
theorem dL_told_394 : decode cL_told 394 = .ok (.ifCond .eq 83, 3) := by decide +kernel
theorem dL_told_397 : decode cL_told 397 = .ok (.aload_n 0, 1) := by decide +kernel
theorem dL_told_398 : decode cL_told 398 = .ok (.aload_n 1, 1) := by decide +kernel
theorem dL_told_399 : decode cL_told 399 = .ok (.bipush 49, 2) := by decide +kernel
theorem dL_told_401 : decode cL_told 401 = .ok (.iload 12, 2) := by decide +kernel
theorem dL_told_403 : decode cL_told 403 = .ok (.sipush 8192, 3) := by decide +kernel
theorem dL_told_406 : decode cL_told 406 = .ok (.idiv, 1) := by decide +kernel
theorem dL_told_407 : decode cL_told 407 = .ok (.bipush 9, 2) := by decide +kernel
theorem dL_told_409 : decode cL_told 409 = .ok (.irem, 1) := by decide +kernel
theorem dL_told_410 : decode cL_told 410 = .ok (.iadd, 1) := by decide +kernel
theorem dL_told_411 : decode cL_told 411 = .ok (.invokestatic 103, 3) := by decide +kernel
theorem dL_told_414 : decode cL_told 414 = .ok (.ifCond .eq 63, 3) := by decide +kernel
theorem dL_told_417 : decode cL_told 417 = .ok (.aload_n 0, 1) := by decide +kernel
theorem dL_told_418 : decode cL_told 418 = .ok (.invokevirtual 115, 3) := by decide +kernel
theorem dL_told_421 : decode cL_told 421 = .ok (.iload 10, 2) := by decide +kernel
theorem dL_told_423 : decode cL_told 423 = .ok (.bipush 7, 2) := by decide +kernel
theorem dL_told_425 : decode cL_told 425 = .ok (.iadd, 1) := by decide +kernel
theorem dL_told_426 : decode cL_told 426 = .ok (.bipush 9, 2) := by decide +kernel
theorem dL_told_428 : decode cL_told 428 = .ok (.iload 11, 2) := by decide +kernel
theorem dL_told_430 : decode cL_told 430 = .ok (.imul, 1) := by decide +kernel
theorem dL_told_431 : decode cL_told 431 = .ok (.iadd, 1) := by decide +kernel
theorem dL_told_432 : decode cL_told 432 = .ok (.if_icmp .ne 45, 3) := by decide +kernel
theorem dL_told_435 : decode cL_told 435 = .ok (.aload_n 0, 1) := by decide +kernel
theorem dL_told_436 : decode cL_told 436 = .ok (.aload_n 1, 1) := by decide +kernel
theorem dL_told_437 : decode cL_told 437 = .ok (.iconst 1, 1) := by decide +kernel
theorem dL_told_438 : decode cL_told 438 = .ok (.iload 12, 2) := by decide +kernel
theorem dL_told_440 : decode cL_told 440 = .ok (.ldc 124, 2) := by decide +kernel
theorem dL_told_442 : decode cL_told 442 = .ok (.idiv, 1) := by decide +kernel
theorem dL_told_443 : decode cL_told 443 = .ok (.bipush 99, 2) := by decide +kernel
theorem dL_told_445 : decode cL_told 445 = .ok (.irem, 1) := by decide +kernel
theorem dL_told_446 : decode cL_told 446 = .ok (.iadd, 1) := by decide +kernel
theorem dL_told_447 : decode cL_told 447 = .ok (.bipush 10, 2) := by decide +kernel
theorem dL_told_449 : decode cL_told 449 = .ok (.invokestatic 119, 3) := by decide +kernel
theorem dL_told_452 : decode cL_told 452 = .ok (.ifCond .eq 25, 3) := by decide +kernel
theorem dL_told_455 : decode cL_told 455 = .ok (.aload_n 0, 1) := by decide +kernel
theorem dL_told_456 : decode cL_told 456 = .ok (.invokevirtual 115, 3) := by decide +kernel
theorem dL_told_459 : decode cL_told 459 = .ok (.iload 10, 2) := by decide +kernel
theorem dL_told_461 : decode cL_told 461 = .ok (.bipush 9, 2) := by decide +kernel
theorem dL_told_463 : decode cL_told 463 = .ok (.iadd, 1) := by decide +kernel
theorem dL_told_464 : decode cL_told 464 = .ok (.bipush 9, 2) := by decide +kernel
theorem dL_told_466 : decode cL_told 466 = .ok (.iload 11, 2) := by decide +kernel
theorem dL_told_468 : decode cL_told 468 = .ok (.imul, 1) := by decide +kernel
theorem dL_told_469 : decode cL_told 469 = .ok (.iadd, 1) := by decide +kernel
theorem dL_told_470 : decode cL_told 470 = .ok (.if_icmp .ne 7, 3) := by decide +kernel
theorem dL_told_473 : decode cL_told 473 = .ok (.iconst 1, 1) := by decide +kernel
theorem dL_told_474 : decode cL_told 474 = .ok (.goto 4, 3) := by decide +kernel
theorem dL_told_477 : decode cL_told 477 = .ok (.iconst 0, 1) := by decide +kernel
theorem dL_told_478 : decode cL_told 478 = .ok (.istore 9, 2) := by decide +kernel
theorem dL_told_480 : decode cL_told 480 = .ok (.iinc 11 1, 3) := by decide +kernel
theorem dL_told_483 : decode cL_told 483 = .ok (.goto (-160), 3) := by decide +kernel
theorem dL_told_486 : decode cL_told 486 = .ok (.iload 10, 2) := by decide +kernel
theorem dL_told_488 : decode cL_told 488 = .ok (.bipush 9, 2) := by decide +kernel
theorem dL_told_490 : decode cL_told 490 = .ok (.iload 6, 2) := by decide +kernel
theorem dL_told_492 : decode cL_told 492 = .ok (.imul, 1) := by decide +kernel
theorem dL_told_493 : decode cL_told 493 = .ok (.iadd, 1) := by decide +kernel
theorem dL_told_494 : decode cL_told 494 = .ok (.istore 10, 2) := by decide +kernel
theorem dL_told_496 : decode cL_told 496 = .ok (.iload 9, 2) := by decide +kernel
theorem dL_told_498 : decode cL_told 498 = .ok (.ifCond .eq 28, 3) := by decide +kernel
theorem dL_told_501 : decode cL_told 501 = .ok (.aload_n 0, 1) := by decide +kernel
theorem dL_told_502 : decode cL_told 502 = .ok (.aload_n 1, 1) := by decide +kernel
theorem dL_told_503 : decode cL_told 503 = .ok (.bipush 119, 2) := by decide +kernel
theorem dL_told_505 : decode cL_told 505 = .ok (.invokestatic 103, 3) := by decide +kernel
theorem dL_told_508 : decode cL_told 508 = .ok (.ifCond .eq 18, 3) := by decide +kernel
theorem dL_told_511 : decode cL_told 511 = .ok (.aload_n 0, 1) := by decide +kernel
theorem dL_told_512 : decode cL_told 512 = .ok (.invokevirtual 115, 3) := by decide +kernel
theorem dL_told_515 : decode cL_told 515 = .ok (.iload 10, 2) := by decide +kernel
theorem dL_told_517 : decode cL_told 517 = .ok (.iconst 1, 1) := by decide +kernel
theorem dL_told_518 : decode cL_told 518 = .ok (.iadd, 1) := by decide +kernel
theorem dL_told_519 : decode cL_told 519 = .ok (.if_icmp .ne 7, 3) := by decide +kernel
theorem dL_told_522 : decode cL_told 522 = .ok (.iconst 1, 1) := by decide +kernel
theorem dL_told_523 : decode cL_told 523 = .ok (.goto 4, 3) := by decide +kernel
theorem dL_told_526 : decode cL_told 526 = .ok (.iconst 0, 1) := by decide +kernel
theorem dL_told_527 : decode cL_told 527 = .ok (.istore 9, 2) := by decide +kernel
theorem dL_told_529 : decode cL_told 529 = .ok (.iconst 0, 1) := by decide +kernel
theorem dL_told_530 : decode cL_told 530 = .ok (.istore 11, 2) := by decide +kernel
theorem dL_told_532 : decode cL_told 532 = .ok (.iload 11, 2) := by decide +kernel
theorem dL_told_534 : decode cL_told 534 = .ok (.iload 7, 2) := by decide +kernel
theorem dL_told_536 : decode cL_told 536 = .ok (.if_icmp .ge 70, 3) := by decide +kernel
theorem dL_told_539 : decode cL_told 539 = .ok (.iload 9, 2) := by decide +kernel
theorem dL_told_541 : decode cL_told 541 = .ok (.ifCond .eq 65, 3) := by decide +kernel
theorem dL_told_544 : decode cL_told 544 = .ok (.aload_n 0, 1) := by decide +kernel
theorem dL_told_545 : decode cL_told 545 = .ok (.aload_n 1, 1) := by decide +kernel
theorem dL_told_546 : decode cL_told 546 = .ok (.bipush 48, 2) := by decide +kernel
theorem dL_told_548 : decode cL_told 548 = .ok (.aload_n 2, 1) := by decide +kernel
theorem dL_told_549 : decode cL_told 549 = .ok (.iload_n 3, 1) := by decide +kernel
theorem dL_told_550 : decode cL_told 550 = .ok (.bipush 9, 2) := by decide +kernel
theorem dL_told_552 : decode cL_told 552 = .ok (.iadd, 1) := by decide +kernel
theorem dL_told_553 : decode cL_told 553 = .ok (.invokestatic 107, 3) := by decide +kernel
theorem dL_told_556 : decode cL_told 556 = .ok (.iconst 1, 1) := by decide +kernel
theorem dL_told_557 : decode cL_told 557 = .ok (.iconst 5, 1) := by decide +kernel
theorem dL_told_558 : decode cL_told 558 = .ok (.iload 11, 2) := by decide +kernel
theorem dL_told_560 : decode cL_told 560 = .ok (.imul, 1) := by decide +kernel
theorem dL_told_561 : decode cL_told 561 = .ok (.iadd, 1) := by decide +kernel
theorem dL_told_562 : decode cL_told 562 = .ok (.idiv, 1) := by decide +kernel
theorem dL_told_563 : decode cL_told 563 = .ok (.iload 11, 2) := by decide +kernel
theorem dL_told_565 : decode cL_told 565 = .ok (.iconst 2, 1) := by decide +kernel
theorem dL_told_566 : decode cL_told 566 = .ok (.irem, 1) := by decide +kernel
theorem dL_told_567 : decode cL_told 567 = .ok (.ifCond .ne 8, 3) := by decide +kernel
theorem dL_told_570 : decode cL_told 570 = .ok (.bipush 10, 2) := by decide +kernel
theorem dL_told_572 : decode cL_told 572 = .ok (.goto 4, 3) := by decide +kernel
theorem dL_told_575 : decode cL_told 575 = .ok (.iconst 4, 1) := by decide +kernel
theorem dL_told_576 : decode cL_told 576 = .ok (.irem, 1) := by decide +kernel
theorem dL_told_577 : decode cL_told 577 = .ok (.iadd, 1) := by decide +kernel
theorem dL_told_578 : decode cL_told 578 = .ok (.invokestatic 103, 3) := by decide +kernel
theorem dL_told_581 : decode cL_told 581 = .ok (.ifCond .eq 16, 3) := by decide +kernel
theorem dL_told_584 : decode cL_told 584 = .ok (.aload_n 0, 1) := by decide +kernel
theorem dL_told_585 : decode cL_told 585 = .ok (.invokevirtual 115, 3) := by decide +kernel
theorem dL_told_588 : decode cL_told 588 = .ok (.bipush (-9), 2) := by decide +kernel
theorem dL_told_590 : decode cL_told 590 = .ok (.if_icmp .ne 7, 3) := by decide +kernel
theorem dL_told_593 : decode cL_told 593 = .ok (.iconst 1, 1) := by decide +kernel
theorem dL_told_594 : decode cL_told 594 = .ok (.goto 4, 3) := by decide +kernel
theorem dL_told_597 : decode cL_told 597 = .ok (.iconst 0, 1) := by decide +kernel
theorem dL_told_598 : decode cL_told 598 = .ok (.istore 9, 2) := by decide +kernel
theorem dL_told_600 : decode cL_told 600 = .ok (.iinc 11 1, 3) := by decide +kernel
theorem dL_told_603 : decode cL_told 603 = .ok (.goto (-71), 3) := by decide +kernel
theorem dL_told_606 : decode cL_told 606 = .ok (.iload 9, 2) := by decide +kernel
theorem dL_told_608 : decode cL_told 608 = .ok (.ifCond .eq 137, 3) := by decide +kernel
theorem dL_told_611 : decode cL_told 611 = .ok (.aload_n 0, 1) := by decide +kernel
theorem dL_told_612 : decode cL_told 612 = .ok (.invokestatic 125, 3) := by decide +kernel
theorem dL_told_615 : decode cL_told 615 = .ok (.iload 5, 2) := by decide +kernel
theorem dL_told_617 : decode cL_told 617 = .ok (.if_icmp .ne 128, 3) := by decide +kernel
theorem dL_told_620 : decode cL_told 620 = .ok (.aload_n 1, 1) := by decide +kernel
theorem dL_told_621 : decode cL_told 621 = .ok (.invokestatic 125, 3) := by decide +kernel
theorem dL_told_624 : decode cL_told 624 = .ok (.iload 5, 2) := by decide +kernel
theorem dL_told_626 : decode cL_told 626 = .ok (.if_icmp .ne 119, 3) := by decide +kernel
theorem dL_told_629 : decode cL_told 629 = .ok (.aload_n 0, 1) := by decide +kernel
theorem dL_told_630 : decode cL_told 630 = .ok (.iconst 0, 1) := by decide +kernel
theorem dL_told_631 : decode cL_told 631 = .ok (.invokestatic 129, 3) := by decide +kernel
theorem dL_told_634 : decode cL_told 634 = .ok (.iload 5, 2) := by decide +kernel
theorem dL_told_636 : decode cL_told 636 = .ok (.if_icmp .ne 109, 3) := by decide +kernel
theorem dL_told_639 : decode cL_told 639 = .ok (.aload_n 0, 1) := by decide +kernel
theorem dL_told_640 : decode cL_told 640 = .ok (.iconst 1, 1) := by decide +kernel
theorem dL_told_641 : decode cL_told 641 = .ok (.invokestatic 129, 3) := by decide +kernel
theorem dL_told_644 : decode cL_told 644 = .ok (.iload 6, 2) := by decide +kernel
theorem dL_told_646 : decode cL_told 646 = .ok (.if_icmp .ne 99, 3) := by decide +kernel
theorem dL_told_649 : decode cL_told 649 = .ok (.aload_n 0, 1) := by decide +kernel
theorem dL_told_650 : decode cL_told 650 = .ok (.iconst 4, 1) := by decide +kernel
theorem dL_told_651 : decode cL_told 651 = .ok (.invokestatic 129, 3) := by decide +kernel
theorem dL_told_654 : decode cL_told 654 = .ok (.iload 8, 2) := by decide +kernel
theorem dL_told_656 : decode cL_told 656 = .ok (.if_icmp .ne 89, 3) := by decide +kernel
theorem dL_told_659 : decode cL_told 659 = .ok (.aload_n 0, 1) := by decide +kernel
theorem dL_told_660 : decode cL_told 660 = .ok (.iconst 0, 1) := by decide +kernel
theorem dL_told_661 : decode cL_told 661 = .ok (.invokestatic 132, 3) := by decide +kernel
theorem dL_told_664 : decode cL_told 664 = .ok (.iload 8, 2) := by decide +kernel
theorem dL_told_666 : decode cL_told 666 = .ok (.if_icmp .ne 79, 3) := by decide +kernel
theorem dL_told_669 : decode cL_told 669 = .ok (.aload_n 0, 1) := by decide +kernel
theorem dL_told_670 : decode cL_told 670 = .ok (.iconst 5, 1) := by decide +kernel
theorem dL_told_671 : decode cL_told 671 = .ok (.invokestatic 129, 3) := by decide +kernel
theorem dL_told_674 : decode cL_told 674 = .ok (.ifCond .ne 71, 3) := by decide +kernel
theorem dL_told_677 : decode cL_told 677 = .ok (.aload_n 0, 1) := by decide +kernel
theorem dL_told_678 : decode cL_told 678 = .ok (.iconst 0, 1) := by decide +kernel
theorem dL_told_679 : decode cL_told 679 = .ok (.iconst 5, 1) := by decide +kernel
theorem dL_told_680 : decode cL_told 680 = .ok (.invokestatic 135, 3) := by decide +kernel
theorem dL_told_683 : decode cL_told 683 = .ok (.ifCond .ne 62, 3) := by decide +kernel
theorem dL_told_686 : decode cL_told 686 = .ok (.aload_n 0, 1) := by decide +kernel
theorem dL_told_687 : decode cL_told 687 = .ok (.invokestatic 139, 3) := by decide +kernel
theorem dL_told_690 : decode cL_told 690 = .ok (.sipush (-1003), 3) := by decide +kernel
theorem dL_told_693 : decode cL_told 693 = .ok (.if_icmp .ne 52, 3) := by decide +kernel
theorem dL_told_696 : decode cL_told 696 = .ok (.aload_n 1, 1) := by decide +kernel
theorem dL_told_697 : decode cL_told 697 = .ok (.iconst 1, 1) := by decide +kernel
theorem dL_told_698 : decode cL_told 698 = .ok (.invokestatic 142, 3) := by decide +kernel
theorem dL_told_701 : decode cL_told 701 = .ok (.sipush (-1003), 3) := by decide +kernel
theorem dL_told_704 : decode cL_told 704 = .ok (.if_icmp .ne 41, 3) := by decide +kernel
theorem dL_told_707 : decode cL_told 707 = .ok (.aload_n 0, 1) := by decide +kernel
theorem dL_told_708 : decode cL_told 708 = .ok (.aload_n 1, 1) := by decide +kernel
theorem dL_told_709 : decode cL_told 709 = .ok (.bipush 119, 2) := by decide +kernel
theorem dL_told_711 : decode cL_told 711 = .ok (.invokestatic 103, 3) := by decide +kernel
theorem dL_told_714 : decode cL_told 714 = .ok (.ifCond .eq 31, 3) := by decide +kernel
theorem dL_told_717 : decode cL_told 717 = .ok (.aload_n 0, 1) := by decide +kernel
theorem dL_told_718 : decode cL_told 718 = .ok (.invokevirtual 115, 3) := by decide +kernel
theorem dL_told_721 : decode cL_told 721 = .ok (.iload 10, 2) := by decide +kernel
theorem dL_told_723 : decode cL_told 723 = .ok (.iconst 1, 1) := by decide +kernel
theorem dL_told_724 : decode cL_told 724 = .ok (.iadd, 1) := by decide +kernel
theorem dL_told_725 : decode cL_told 725 = .ok (.iload 7, 2) := by decide +kernel
theorem dL_told_727 : decode cL_told 727 = .ok (.iadd, 1) := by decide +kernel
theorem dL_told_728 : decode cL_told 728 = .ok (.if_icmp .ne 17, 3) := by decide +kernel
theorem dL_told_731 : decode cL_told 731 = .ok (.aload_n 0, 1) := by decide +kernel
theorem dL_told_732 : decode cL_told 732 = .ok (.invokestatic 125, 3) := by decide +kernel
theorem dL_told_735 : decode cL_told 735 = .ok (.sipush (-1003), 3) := by decide +kernel
theorem dL_told_738 : decode cL_told 738 = .ok (.if_icmp .ne 7, 3) := by decide +kernel
theorem dL_told_741 : decode cL_told 741 = .ok (.iconst 1, 1) := by decide +kernel
theorem dL_told_742 : decode cL_told 742 = .ok (.goto 4, 3) := by decide +kernel
theorem dL_told_745 : decode cL_told 745 = .ok (.iconst 0, 1) := by decide +kernel
theorem dL_told_746 : decode cL_told 746 = .ok (.ireturn, 1) := by decide +kernel
theorem dL_alike_0 : decode cL_alike 0 = .ok (.iconst 1, 1) := by decide +kernel
theorem dL_alike_1 : decode cL_alike 1 = .ok (.istore_n 2, 1) := by decide +kernel
theorem dL_alike_2 : decode cL_alike 2 = .ok (.iconst 0, 1) := by decide +kernel
theorem dL_alike_3 : decode cL_alike 3 = .ok (.istore_n 3, 1) := by decide +kernel
theorem dL_alike_4 : decode cL_alike 4 = .ok (.iload_n 3, 1) := by decide +kernel
theorem dL_alike_5 : decode cL_alike 5 = .ok (.bipush 14, 2) := by decide +kernel
theorem dL_alike_7 : decode cL_alike 7 = .ok (.if_icmp .ge 51, 3) := by decide +kernel
theorem dL_alike_10 : decode cL_alike 10 = .ok (.iload_n 2, 1) := by decide +kernel
theorem dL_alike_11 : decode cL_alike 11 = .ok (.ifCond .eq 39, 3) := by decide +kernel
theorem dL_alike_14 : decode cL_alike 14 = .ok (.aload_n 0, 1) := by decide +kernel
theorem dL_alike_15 : decode cL_alike 15 = .ok (.iload_n 3, 1) := by decide +kernel
theorem dL_alike_16 : decode cL_alike 16 = .ok (.invokestatic 129, 3) := by decide +kernel
theorem dL_alike_19 : decode cL_alike 19 = .ok (.aload_n 1, 1) := by decide +kernel
theorem dL_alike_20 : decode cL_alike 20 = .ok (.iload_n 3, 1) := by decide +kernel
theorem dL_alike_21 : decode cL_alike 21 = .ok (.invokestatic 129, 3) := by decide +kernel
theorem dL_alike_24 : decode cL_alike 24 = .ok (.if_icmp .ne 26, 3) := by decide +kernel
theorem dL_alike_27 : decode cL_alike 27 = .ok (.iload_n 3, 1) := by decide +kernel
theorem dL_alike_28 : decode cL_alike 28 = .ok (.bipush 7, 2) := by decide +kernel
theorem dL_alike_30 : decode cL_alike 30 = .ok (.if_icmp .gt 16, 3) := by decide +kernel
theorem dL_alike_33 : decode cL_alike 33 = .ok (.aload_n 0, 1) := by decide +kernel
theorem dL_alike_34 : decode cL_alike 34 = .ok (.iload_n 3, 1) := by decide +kernel
theorem dL_alike_35 : decode cL_alike 35 = .ok (.invokestatic 132, 3) := by decide +kernel
theorem dL_alike_38 : decode cL_alike 38 = .ok (.aload_n 1, 1) := by decide +kernel
theorem dL_alike_39 : decode cL_alike 39 = .ok (.iload_n 3, 1) := by decide +kernel
theorem dL_alike_40 : decode cL_alike 40 = .ok (.invokestatic 132, 3) := by decide +kernel
theorem dL_alike_43 : decode cL_alike 43 = .ok (.if_icmp .ne 7, 3) := by decide +kernel
theorem dL_alike_46 : decode cL_alike 46 = .ok (.iconst 1, 1) := by decide +kernel
theorem dL_alike_47 : decode cL_alike 47 = .ok (.goto 4, 3) := by decide +kernel
theorem dL_alike_50 : decode cL_alike 50 = .ok (.iconst 0, 1) := by decide +kernel
theorem dL_alike_51 : decode cL_alike 51 = .ok (.istore_n 2, 1) := by decide +kernel
theorem dL_alike_52 : decode cL_alike 52 = .ok (.iinc 3 1, 3) := by decide +kernel
theorem dL_alike_55 : decode cL_alike 55 = .ok (.goto (-51), 3) := by decide +kernel
theorem dL_alike_58 : decode cL_alike 58 = .ok (.iconst 0, 1) := by decide +kernel
theorem dL_alike_59 : decode cL_alike 59 = .ok (.istore_n 3, 1) := by decide +kernel
theorem dL_alike_60 : decode cL_alike 60 = .ok (.iload_n 3, 1) := by decide +kernel
theorem dL_alike_61 : decode cL_alike 61 = .ok (.bipush 8, 2) := by decide +kernel
theorem dL_alike_63 : decode cL_alike 63 = .ok (.aload_n 0, 1) := by decide +kernel
theorem dL_alike_64 : decode cL_alike 64 = .ok (.iconst 1, 1) := by decide +kernel
theorem dL_alike_65 : decode cL_alike 65 = .ok (.invokestatic 129, 3) := by decide +kernel
theorem dL_alike_68 : decode cL_alike 68 = .ok (.imul, 1) := by decide +kernel
theorem dL_alike_69 : decode cL_alike 69 = .ok (.if_icmp .ge 46, 3) := by decide +kernel
theorem dL_alike_72 : decode cL_alike 72 = .ok (.iload_n 2, 1) := by decide +kernel
theorem dL_alike_73 : decode cL_alike 73 = .ok (.ifCond .eq 42, 3) := by decide +kernel
theorem dL_alike_76 : decode cL_alike 76 = .ok (.aload_n 0, 1) := by decide +kernel
theorem dL_alike_77 : decode cL_alike 77 = .ok (.iload_n 3, 1) := by decide +kernel
theorem dL_alike_78 : decode cL_alike 78 = .ok (.bipush 8, 2) := by decide +kernel
theorem dL_alike_80 : decode cL_alike 80 = .ok (.idiv, 1) := by decide +kernel
theorem dL_alike_81 : decode cL_alike 81 = .ok (.iload_n 3, 1) := by decide +kernel
theorem dL_alike_82 : decode cL_alike 82 = .ok (.bipush 8, 2) := by decide +kernel
theorem dL_alike_84 : decode cL_alike 84 = .ok (.irem, 1) := by decide +kernel
theorem dL_alike_85 : decode cL_alike 85 = .ok (.invokestatic 135, 3) := by decide +kernel
theorem dL_alike_88 : decode cL_alike 88 = .ok (.aload_n 1, 1) := by decide +kernel
theorem dL_alike_89 : decode cL_alike 89 = .ok (.iload_n 3, 1) := by decide +kernel
theorem dL_alike_90 : decode cL_alike 90 = .ok (.bipush 8, 2) := by decide +kernel
theorem dL_alike_92 : decode cL_alike 92 = .ok (.idiv, 1) := by decide +kernel
theorem dL_alike_93 : decode cL_alike 93 = .ok (.iload_n 3, 1) := by decide +kernel
theorem dL_alike_94 : decode cL_alike 94 = .ok (.bipush 8, 2) := by decide +kernel
theorem dL_alike_96 : decode cL_alike 96 = .ok (.irem, 1) := by decide +kernel
theorem dL_alike_97 : decode cL_alike 97 = .ok (.invokestatic 135, 3) := by decide +kernel
theorem dL_alike_100 : decode cL_alike 100 = .ok (.if_icmp .ne 7, 3) := by decide +kernel
theorem dL_alike_103 : decode cL_alike 103 = .ok (.iconst 1, 1) := by decide +kernel
theorem dL_alike_104 : decode cL_alike 104 = .ok (.goto 4, 3) := by decide +kernel
theorem dL_alike_107 : decode cL_alike 107 = .ok (.iconst 0, 1) := by decide +kernel
theorem dL_alike_108 : decode cL_alike 108 = .ok (.istore_n 2, 1) := by decide +kernel
theorem dL_alike_109 : decode cL_alike 109 = .ok (.iinc 3 1, 3) := by decide +kernel
theorem dL_alike_112 : decode cL_alike 112 = .ok (.goto (-52), 3) := by decide +kernel
theorem dL_alike_115 : decode cL_alike 115 = .ok (.iconst 0, 1) := by decide +kernel
theorem dL_alike_116 : decode cL_alike 116 = .ok (.istore_n 3, 1) := by decide +kernel
theorem dL_alike_117 : decode cL_alike 117 = .ok (.iload_n 3, 1) := by decide +kernel
theorem dL_alike_118 : decode cL_alike 118 = .ok (.iconst 5, 1) := by decide +kernel
theorem dL_alike_119 : decode cL_alike 119 = .ok (.aload_n 0, 1) := by decide +kernel
theorem dL_alike_120 : decode cL_alike 120 = .ok (.iconst 0, 1) := by decide +kernel
theorem dL_alike_121 : decode cL_alike 121 = .ok (.invokestatic 129, 3) := by decide +kernel
theorem dL_alike_124 : decode cL_alike 124 = .ok (.imul, 1) := by decide +kernel
theorem dL_alike_125 : decode cL_alike 125 = .ok (.if_icmp .ge 42, 3) := by decide +kernel
theorem dL_alike_128 : decode cL_alike 128 = .ok (.iload_n 2, 1) := by decide +kernel
theorem dL_alike_129 : decode cL_alike 129 = .ok (.ifCond .eq 38, 3) := by decide +kernel
theorem dL_alike_132 : decode cL_alike 132 = .ok (.aload_n 0, 1) := by decide +kernel
theorem dL_alike_133 : decode cL_alike 133 = .ok (.iload_n 3, 1) := by decide +kernel
theorem dL_alike_134 : decode cL_alike 134 = .ok (.iconst 5, 1) := by decide +kernel
theorem dL_alike_135 : decode cL_alike 135 = .ok (.idiv, 1) := by decide +kernel
theorem dL_alike_136 : decode cL_alike 136 = .ok (.iload_n 3, 1) := by decide +kernel
theorem dL_alike_137 : decode cL_alike 137 = .ok (.iconst 5, 1) := by decide +kernel
theorem dL_alike_138 : decode cL_alike 138 = .ok (.irem, 1) := by decide +kernel
theorem dL_alike_139 : decode cL_alike 139 = .ok (.invokestatic 145, 3) := by decide +kernel
theorem dL_alike_142 : decode cL_alike 142 = .ok (.aload_n 1, 1) := by decide +kernel
theorem dL_alike_143 : decode cL_alike 143 = .ok (.iload_n 3, 1) := by decide +kernel
theorem dL_alike_144 : decode cL_alike 144 = .ok (.iconst 5, 1) := by decide +kernel
theorem dL_alike_145 : decode cL_alike 145 = .ok (.idiv, 1) := by decide +kernel
theorem dL_alike_146 : decode cL_alike 146 = .ok (.iload_n 3, 1) := by decide +kernel
theorem dL_alike_147 : decode cL_alike 147 = .ok (.iconst 5, 1) := by decide +kernel
theorem dL_alike_148 : decode cL_alike 148 = .ok (.irem, 1) := by decide +kernel
theorem dL_alike_149 : decode cL_alike 149 = .ok (.invokestatic 145, 3) := by decide +kernel
theorem dL_alike_152 : decode cL_alike 152 = .ok (.if_icmp .ne 7, 3) := by decide +kernel
theorem dL_alike_155 : decode cL_alike 155 = .ok (.iconst 1, 1) := by decide +kernel
theorem dL_alike_156 : decode cL_alike 156 = .ok (.goto 4, 3) := by decide +kernel
theorem dL_alike_159 : decode cL_alike 159 = .ok (.iconst 0, 1) := by decide +kernel
theorem dL_alike_160 : decode cL_alike 160 = .ok (.istore_n 2, 1) := by decide +kernel
theorem dL_alike_161 : decode cL_alike 161 = .ok (.iinc 3 1, 3) := by decide +kernel
theorem dL_alike_164 : decode cL_alike 164 = .ok (.goto (-47), 3) := by decide +kernel
theorem dL_alike_167 : decode cL_alike 167 = .ok (.iconst 0, 1) := by decide +kernel
theorem dL_alike_168 : decode cL_alike 168 = .ok (.istore_n 3, 1) := by decide +kernel
theorem dL_alike_169 : decode cL_alike 169 = .ok (.iload_n 3, 1) := by decide +kernel
theorem dL_alike_170 : decode cL_alike 170 = .ok (.bipush 12, 2) := by decide +kernel
theorem dL_alike_172 : decode cL_alike 172 = .ok (.if_icmp .ge 32, 3) := by decide +kernel
theorem dL_alike_175 : decode cL_alike 175 = .ok (.iload_n 2, 1) := by decide +kernel
theorem dL_alike_176 : decode cL_alike 176 = .ok (.ifCond .eq 28, 3) := by decide +kernel
theorem dL_alike_179 : decode cL_alike 179 = .ok (.aload_n 0, 1) := by decide +kernel
theorem dL_alike_180 : decode cL_alike 180 = .ok (.iload_n 3, 1) := by decide +kernel
theorem dL_alike_181 : decode cL_alike 181 = .ok (.invokestatic 148, 3) := by decide +kernel
theorem dL_alike_184 : decode cL_alike 184 = .ok (.aload_n 1, 1) := by decide +kernel
theorem dL_alike_185 : decode cL_alike 185 = .ok (.iload_n 3, 1) := by decide +kernel
theorem dL_alike_186 : decode cL_alike 186 = .ok (.invokestatic 148, 3) := by decide +kernel
theorem dL_alike_189 : decode cL_alike 189 = .ok (.if_icmp .ne 7, 3) := by decide +kernel
theorem dL_alike_192 : decode cL_alike 192 = .ok (.iconst 1, 1) := by decide +kernel
theorem dL_alike_193 : decode cL_alike 193 = .ok (.goto 4, 3) := by decide +kernel
theorem dL_alike_196 : decode cL_alike 196 = .ok (.iconst 0, 1) := by decide +kernel
theorem dL_alike_197 : decode cL_alike 197 = .ok (.istore_n 2, 1) := by decide +kernel
theorem dL_alike_198 : decode cL_alike 198 = .ok (.iinc 3 1, 3) := by decide +kernel
theorem dL_alike_201 : decode cL_alike 201 = .ok (.goto (-32), 3) := by decide +kernel
theorem dL_alike_204 : decode cL_alike 204 = .ok (.iload_n 2, 1) := by decide +kernel
theorem dL_alike_205 : decode cL_alike 205 = .ok (.ireturn, 1) := by decide +kernel
theorem dL_refuses_0 : decode cL_refuses 0 = .ok (.aload_n 0, 1) := by decide +kernel
theorem dL_refuses_1 : decode cL_refuses 1 = .ok (.iconst 0, 1) := by decide +kernel
theorem dL_refuses_2 : decode cL_refuses 2 = .ok (.invokestatic 129, 3) := by decide +kernel
theorem dL_refuses_5 : decode cL_refuses 5 = .ok (.istore_n 1, 1) := by decide +kernel
theorem dL_refuses_6 : decode cL_refuses 6 = .ok (.aload_n 0, 1) := by decide +kernel
theorem dL_refuses_7 : decode cL_refuses 7 = .ok (.iconst 1, 1) := by decide +kernel
theorem dL_refuses_8 : decode cL_refuses 8 = .ok (.invokestatic 129, 3) := by decide +kernel
theorem dL_refuses_11 : decode cL_refuses 11 = .ok (.istore_n 2, 1) := by decide +kernel
theorem dL_refuses_12 : decode cL_refuses 12 = .ok (.aload_n 0, 1) := by decide +kernel
theorem dL_refuses_13 : decode cL_refuses 13 = .ok (.iconst 0, 1) := by decide +kernel
theorem dL_refuses_14 : decode cL_refuses 14 = .ok (.iconst 5, 1) := by decide +kernel
theorem dL_refuses_15 : decode cL_refuses 15 = .ok (.invokestatic 135, 3) := by decide +kernel
theorem dL_refuses_18 : decode cL_refuses 18 = .ok (.istore_n 3, 1) := by decide +kernel
theorem dL_refuses_19 : decode cL_refuses 19 = .ok (.aload_n 0, 1) := by decide +kernel
theorem dL_refuses_20 : decode cL_refuses 20 = .ok (.bipush 6, 2) := by decide +kernel
theorem dL_refuses_22 : decode cL_refuses 22 = .ok (.invokestatic 129, 3) := by decide +kernel
theorem dL_refuses_25 : decode cL_refuses 25 = .ok (.iload_n 1, 1) := by decide +kernel
theorem dL_refuses_26 : decode cL_refuses 26 = .ok (.if_icmp .ne 7, 3) := by decide +kernel
theorem dL_refuses_29 : decode cL_refuses 29 = .ok (.iconst 1, 1) := by decide +kernel
theorem dL_refuses_30 : decode cL_refuses 30 = .ok (.goto 4, 3) := by decide +kernel
theorem dL_refuses_33 : decode cL_refuses 33 = .ok (.iconst 0, 1) := by decide +kernel
theorem dL_refuses_34 : decode cL_refuses 34 = .ok (.istore 4, 2) := by decide +kernel
theorem dL_refuses_36 : decode cL_refuses 36 = .ok (.aload_n 0, 1) := by decide +kernel
theorem dL_refuses_37 : decode cL_refuses 37 = .ok (.bipush 14, 2) := by decide +kernel
theorem dL_refuses_39 : decode cL_refuses 39 = .ok (.invokestatic 129, 3) := by decide +kernel
theorem dL_refuses_42 : decode cL_refuses 42 = .ok (.sipush (-1002), 3) := by decide +kernel
theorem dL_refuses_45 : decode cL_refuses 45 = .ok (.if_icmp .ne 341, 3) := by decide +kernel
theorem dL_refuses_48 : decode cL_refuses 48 = .ok (.aload_n 0, 1) := by decide +kernel
theorem dL_refuses_49 : decode cL_refuses 49 = .ok (.iload_n 1, 1) := by decide +kernel
theorem dL_refuses_50 : decode cL_refuses 50 = .ok (.iconst 5, 1) := by decide +kernel
theorem dL_refuses_51 : decode cL_refuses 51 = .ok (.invokestatic 145, 3) := by decide +kernel
theorem dL_refuses_54 : decode cL_refuses 54 = .ok (.sipush (-1001), 3) := by decide +kernel
theorem dL_refuses_57 : decode cL_refuses 57 = .ok (.if_icmp .ne 329, 3) := by decide +kernel
theorem dL_refuses_60 : decode cL_refuses 60 = .ok (.aload_n 0, 1) := by decide +kernel
theorem dL_refuses_61 : decode cL_refuses 61 = .ok (.iconst 0, 1) := by decide +kernel
theorem dL_refuses_62 : decode cL_refuses 62 = .ok (.iconst 5, 1) := by decide +kernel
theorem dL_refuses_63 : decode cL_refuses 63 = .ok (.invokestatic 145, 3) := by decide +kernel
theorem dL_refuses_66 : decode cL_refuses 66 = .ok (.sipush (-1002), 3) := by decide +kernel
theorem dL_refuses_69 : decode cL_refuses 69 = .ok (.if_icmp .ne 317, 3) := by decide +kernel
theorem dL_refuses_72 : decode cL_refuses 72 = .ok (.aload_n 0, 1) := by decide +kernel
theorem dL_refuses_73 : decode cL_refuses 73 = .ok (.iload_n 2, 1) := by decide +kernel
theorem dL_refuses_74 : decode cL_refuses 74 = .ok (.bipush 8, 2) := by decide +kernel
theorem dL_refuses_76 : decode cL_refuses 76 = .ok (.invokestatic 135, 3) := by decide +kernel
theorem dL_refuses_79 : decode cL_refuses 79 = .ok (.sipush (-1001), 3) := by decide +kernel
theorem dL_refuses_82 : decode cL_refuses 82 = .ok (.if_icmp .ne 304, 3) := by decide +kernel
theorem dL_refuses_85 : decode cL_refuses 85 = .ok (.aload_n 0, 1) := by decide +kernel
theorem dL_refuses_86 : decode cL_refuses 86 = .ok (.iconst 0, 1) := by decide +kernel
theorem dL_refuses_87 : decode cL_refuses 87 = .ok (.bipush 8, 2) := by decide +kernel
theorem dL_refuses_89 : decode cL_refuses 89 = .ok (.invokestatic 135, 3) := by decide +kernel
theorem dL_refuses_92 : decode cL_refuses 92 = .ok (.sipush (-1002), 3) := by decide +kernel
theorem dL_refuses_95 : decode cL_refuses 95 = .ok (.if_icmp .ne 291, 3) := by decide +kernel
theorem dL_refuses_98 : decode cL_refuses 98 = .ok (.aload_n 0, 1) := by decide +kernel
theorem dL_refuses_99 : decode cL_refuses 99 = .ok (.iconst (-1), 1) := by decide +kernel
theorem dL_refuses_100 : decode cL_refuses 100 = .ok (.invokestatic 148, 3) := by decide +kernel
theorem dL_refuses_103 : decode cL_refuses 103 = .ok (.sipush (-1002), 3) := by decide +kernel
theorem dL_refuses_106 : decode cL_refuses 106 = .ok (.if_icmp .ne 280, 3) := by decide +kernel
theorem dL_refuses_109 : decode cL_refuses 109 = .ok (.aload_n 0, 1) := by decide +kernel
theorem dL_refuses_110 : decode cL_refuses 110 = .ok (.sipush 10000, 3) := by decide +kernel
theorem dL_refuses_113 : decode cL_refuses 113 = .ok (.invokestatic 148, 3) := by decide +kernel
theorem dL_refuses_116 : decode cL_refuses 116 = .ok (.sipush (-1002), 3) := by decide +kernel
theorem dL_refuses_119 : decode cL_refuses 119 = .ok (.if_icmp .ne 267, 3) := by decide +kernel
theorem dL_refuses_122 : decode cL_refuses 122 = .ok (.aload_n 0, 1) := by decide +kernel
theorem dL_refuses_123 : decode cL_refuses 123 = .ok (.bipush 8, 2) := by decide +kernel
theorem dL_refuses_125 : decode cL_refuses 125 = .ok (.invokestatic 132, 3) := by decide +kernel
theorem dL_refuses_128 : decode cL_refuses 128 = .ok (.sipush (-1002), 3) := by decide +kernel
theorem dL_refuses_131 : decode cL_refuses 131 = .ok (.if_icmp .ne 255, 3) := by decide +kernel
theorem dL_refuses_134 : decode cL_refuses 134 = .ok (.aload_n 0, 1) := by decide +kernel
theorem dL_refuses_135 : decode cL_refuses 135 = .ok (.iload_n 2, 1) := by decide +kernel
theorem dL_refuses_136 : decode cL_refuses 136 = .ok (.iconst 0, 1) := by decide +kernel
theorem dL_refuses_137 : decode cL_refuses 137 = .ok (.invokestatic 151, 3) := by decide +kernel
theorem dL_refuses_140 : decode cL_refuses 140 = .ok (.sipush (-1001), 3) := by decide +kernel
theorem dL_refuses_143 : decode cL_refuses 143 = .ok (.if_icmp .ne 243, 3) := by decide +kernel
theorem dL_refuses_146 : decode cL_refuses 146 = .ok (.aload_n 0, 1) := by decide +kernel
theorem dL_refuses_147 : decode cL_refuses 147 = .ok (.iconst 0, 1) := by decide +kernel
theorem dL_refuses_148 : decode cL_refuses 148 = .ok (.iconst 0, 1) := by decide +kernel
theorem dL_refuses_149 : decode cL_refuses 149 = .ok (.invokestatic 151, 3) := by decide +kernel
theorem dL_refuses_152 : decode cL_refuses 152 = .ok (.sipush (-1002), 3) := by decide +kernel
theorem dL_refuses_155 : decode cL_refuses 155 = .ok (.if_icmp .ne 231, 3) := by decide +kernel
theorem dL_refuses_158 : decode cL_refuses 158 = .ok (.aload_n 0, 1) := by decide +kernel
theorem dL_refuses_159 : decode cL_refuses 159 = .ok (.iconst 0, 1) := by decide +kernel
theorem dL_refuses_160 : decode cL_refuses 160 = .ok (.sipush 1000, 3) := by decide +kernel
theorem dL_refuses_163 : decode cL_refuses 163 = .ok (.invokestatic 151, 3) := by decide +kernel
theorem dL_refuses_166 : decode cL_refuses 166 = .ok (.sipush (-1002), 3) := by decide +kernel
theorem dL_refuses_169 : decode cL_refuses 169 = .ok (.if_icmp .ne 217, 3) := by decide +kernel
theorem dL_refuses_172 : decode cL_refuses 172 = .ok (.iload_n 3, 1) := by decide +kernel
theorem dL_refuses_173 : decode cL_refuses 173 = .ok (.ifCond .eq 26, 3) := by decide +kernel
theorem dL_refuses_176 : decode cL_refuses 176 = .ok (.aload_n 0, 1) := by decide +kernel
theorem dL_refuses_177 : decode cL_refuses 177 = .ok (.iconst 0, 1) := by decide +kernel
theorem dL_refuses_178 : decode cL_refuses 178 = .ok (.iconst 1, 1) := by decide +kernel
theorem dL_refuses_179 : decode cL_refuses 179 = .ok (.invokestatic 151, 3) := by decide +kernel
theorem dL_refuses_182 : decode cL_refuses 182 = .ok (.sipush (-1003), 3) := by decide +kernel
theorem dL_refuses_185 : decode cL_refuses 185 = .ok (.if_icmp .ne 201, 3) := by decide +kernel
theorem dL_refuses_188 : decode cL_refuses 188 = .ok (.aload_n 0, 1) := by decide +kernel
theorem dL_refuses_189 : decode cL_refuses 189 = .ok (.iconst 0, 1) := by decide +kernel
theorem dL_refuses_190 : decode cL_refuses 190 = .ok (.invokestatic 154, 3) := by decide +kernel
theorem dL_refuses_193 : decode cL_refuses 193 = .ok (.sipush (-1003), 3) := by decide +kernel
theorem dL_refuses_196 : decode cL_refuses 196 = .ok (.if_icmp .ne 190, 3) := by decide +kernel
theorem dL_refuses_199 : decode cL_refuses 199 = .ok (.aload_n 0, 1) := by decide +kernel
theorem dL_refuses_200 : decode cL_refuses 200 = .ok (.iconst 0, 1) := by decide +kernel
theorem dL_refuses_201 : decode cL_refuses 201 = .ok (.sipush 999, 3) := by decide +kernel
theorem dL_refuses_204 : decode cL_refuses 204 = .ok (.invokestatic 151, 3) := by decide +kernel
theorem dL_refuses_207 : decode cL_refuses 207 = .ok (.sipush (-1003), 3) := by decide +kernel
theorem dL_refuses_210 : decode cL_refuses 210 = .ok (.if_icmp .ne 176, 3) := by decide +kernel
theorem dL_refuses_213 : decode cL_refuses 213 = .ok (.aload_n 0, 1) := by decide +kernel
theorem dL_refuses_214 : decode cL_refuses 214 = .ok (.iload_n 2, 1) := by decide +kernel
theorem dL_refuses_215 : decode cL_refuses 215 = .ok (.invokestatic 154, 3) := by decide +kernel
theorem dL_refuses_218 : decode cL_refuses 218 = .ok (.sipush (-1001), 3) := by decide +kernel
theorem dL_refuses_221 : decode cL_refuses 221 = .ok (.if_icmp .ne 165, 3) := by decide +kernel
theorem dL_refuses_224 : decode cL_refuses 224 = .ok (.iload 4, 2) := by decide +kernel
theorem dL_refuses_226 : decode cL_refuses 226 = .ok (.ifCond .eq 14, 3) := by decide +kernel
theorem dL_refuses_229 : decode cL_refuses 229 = .ok (.aload_n 0, 1) := by decide +kernel
theorem dL_refuses_230 : decode cL_refuses 230 = .ok (.iconst 0, 1) := by decide +kernel
theorem dL_refuses_231 : decode cL_refuses 231 = .ok (.invokestatic 154, 3) := by decide +kernel
theorem dL_refuses_234 : decode cL_refuses 234 = .ok (.sipush (-1003), 3) := by decide +kernel
theorem dL_refuses_237 : decode cL_refuses 237 = .ok (.if_icmp .ne 149, 3) := by decide +kernel
theorem dL_refuses_240 : decode cL_refuses 240 = .ok (.aload_n 0, 1) := by decide +kernel
theorem dL_refuses_241 : decode cL_refuses 241 = .ok (.iconst (-1), 1) := by decide +kernel
theorem dL_refuses_242 : decode cL_refuses 242 = .ok (.invokestatic 157, 3) := by decide +kernel
theorem dL_refuses_245 : decode cL_refuses 245 = .ok (.sipush (-1001), 3) := by decide +kernel
theorem dL_refuses_248 : decode cL_refuses 248 = .ok (.if_icmp .ne 138, 3) := by decide +kernel
theorem dL_refuses_251 : decode cL_refuses 251 = .ok (.iload_n 3, 1) := by decide +kernel
theorem dL_refuses_252 : decode cL_refuses 252 = .ok (.iconst 2, 1) := by decide +kernel
theorem dL_refuses_253 : decode cL_refuses 253 = .ok (.if_icmp .eq 19, 3) := by decide +kernel
theorem dL_refuses_256 : decode cL_refuses 256 = .ok (.iload_n 3, 1) := by decide +kernel
theorem dL_refuses_257 : decode cL_refuses 257 = .ok (.iconst 3, 1) := by decide +kernel
theorem dL_refuses_258 : decode cL_refuses 258 = .ok (.if_icmp .eq 14, 3) := by decide +kernel
theorem dL_refuses_261 : decode cL_refuses 261 = .ok (.aload_n 0, 1) := by decide +kernel
theorem dL_refuses_262 : decode cL_refuses 262 = .ok (.iconst 0, 1) := by decide +kernel
theorem dL_refuses_263 : decode cL_refuses 263 = .ok (.invokestatic 157, 3) := by decide +kernel
theorem dL_refuses_266 : decode cL_refuses 266 = .ok (.sipush (-1003), 3) := by decide +kernel
theorem dL_refuses_269 : decode cL_refuses 269 = .ok (.if_icmp .ne 117, 3) := by decide +kernel
theorem dL_refuses_272 : decode cL_refuses 272 = .ok (.aload_n 0, 1) := by decide +kernel
theorem dL_refuses_273 : decode cL_refuses 273 = .ok (.iload_n 1, 1) := by decide +kernel
theorem dL_refuses_274 : decode cL_refuses 274 = .ok (.iconst 0, 1) := by decide +kernel
theorem dL_refuses_275 : decode cL_refuses 275 = .ok (.invokestatic 160, 3) := by decide +kernel
theorem dL_refuses_278 : decode cL_refuses 278 = .ok (.sipush (-1001), 3) := by decide +kernel
theorem dL_refuses_281 : decode cL_refuses 281 = .ok (.if_icmp .ne 105, 3) := by decide +kernel
theorem dL_refuses_284 : decode cL_refuses 284 = .ok (.aload_n 0, 1) := by decide +kernel
theorem dL_refuses_285 : decode cL_refuses 285 = .ok (.iconst 0, 1) := by decide +kernel
theorem dL_refuses_286 : decode cL_refuses 286 = .ok (.iconst 0, 1) := by decide +kernel
theorem dL_refuses_287 : decode cL_refuses 287 = .ok (.invokestatic 160, 3) := by decide +kernel
theorem dL_refuses_290 : decode cL_refuses 290 = .ok (.sipush (-1002), 3) := by decide +kernel
theorem dL_refuses_293 : decode cL_refuses 293 = .ok (.if_icmp .ne 93, 3) := by decide +kernel
theorem dL_refuses_296 : decode cL_refuses 296 = .ok (.aload_n 0, 1) := by decide +kernel
theorem dL_refuses_297 : decode cL_refuses 297 = .ok (.iconst 0, 1) := by decide +kernel
theorem dL_refuses_298 : decode cL_refuses 298 = .ok (.bipush 100, 2) := by decide +kernel
theorem dL_refuses_300 : decode cL_refuses 300 = .ok (.invokestatic 160, 3) := by decide +kernel
theorem dL_refuses_303 : decode cL_refuses 303 = .ok (.sipush (-1002), 3) := by decide +kernel
theorem dL_refuses_306 : decode cL_refuses 306 = .ok (.if_icmp .ne 80, 3) := by decide +kernel
theorem dL_refuses_309 : decode cL_refuses 309 = .ok (.aload_n 0, 1) := by decide +kernel
theorem dL_refuses_310 : decode cL_refuses 310 = .ok (.iconst 0, 1) := by decide +kernel
theorem dL_refuses_311 : decode cL_refuses 311 = .ok (.invokestatic 163, 3) := by decide +kernel
theorem dL_refuses_314 : decode cL_refuses 314 = .ok (.sipush (-1002), 3) := by decide +kernel
theorem dL_refuses_317 : decode cL_refuses 317 = .ok (.if_icmp .ne 69, 3) := by decide +kernel
theorem dL_refuses_320 : decode cL_refuses 320 = .ok (.aload_n 0, 1) := by decide +kernel
theorem dL_refuses_321 : decode cL_refuses 321 = .ok (.sipush 1000, 3) := by decide +kernel
theorem dL_refuses_324 : decode cL_refuses 324 = .ok (.invokestatic 163, 3) := by decide +kernel
theorem dL_refuses_327 : decode cL_refuses 327 = .ok (.sipush (-1002), 3) := by decide +kernel
theorem dL_refuses_330 : decode cL_refuses 330 = .ok (.if_icmp .ne 56, 3) := by decide +kernel
theorem dL_refuses_333 : decode cL_refuses 333 = .ok (.aload_n 0, 1) := by decide +kernel
theorem dL_refuses_334 : decode cL_refuses 334 = .ok (.bipush 30, 2) := by decide +kernel
theorem dL_refuses_336 : decode cL_refuses 336 = .ok (.iconst 0, 1) := by decide +kernel
theorem dL_refuses_337 : decode cL_refuses 337 = .ok (.invokestatic 166, 3) := by decide +kernel
theorem dL_refuses_340 : decode cL_refuses 340 = .ok (.sipush (-1002), 3) := by decide +kernel
theorem dL_refuses_343 : decode cL_refuses 343 = .ok (.if_icmp .ne 43, 3) := by decide +kernel
theorem dL_refuses_346 : decode cL_refuses 346 = .ok (.aload_n 0, 1) := by decide +kernel
theorem dL_refuses_347 : decode cL_refuses 347 = .ok (.iconst 0, 1) := by decide +kernel
theorem dL_refuses_348 : decode cL_refuses 348 = .ok (.bipush 10, 2) := by decide +kernel
theorem dL_refuses_350 : decode cL_refuses 350 = .ok (.invokestatic 166, 3) := by decide +kernel
theorem dL_refuses_353 : decode cL_refuses 353 = .ok (.sipush (-1002), 3) := by decide +kernel
theorem dL_refuses_356 : decode cL_refuses 356 = .ok (.if_icmp .ne 30, 3) := by decide +kernel
theorem dL_refuses_359 : decode cL_refuses 359 = .ok (.aload_n 0, 1) := by decide +kernel
theorem dL_refuses_360 : decode cL_refuses 360 = .ok (.iconst 0, 1) := by decide +kernel
theorem dL_refuses_361 : decode cL_refuses 361 = .ok (.invokestatic 169, 3) := by decide +kernel
theorem dL_refuses_364 : decode cL_refuses 364 = .ok (.sipush (-1002), 3) := by decide +kernel
theorem dL_refuses_367 : decode cL_refuses 367 = .ok (.if_icmp .ne 19, 3) := by decide +kernel
theorem dL_refuses_370 : decode cL_refuses 370 = .ok (.aload_n 0, 1) := by decide +kernel
theorem dL_refuses_371 : decode cL_refuses 371 = .ok (.bipush 100, 2) := by decide +kernel
theorem dL_refuses_373 : decode cL_refuses 373 = .ok (.invokestatic 169, 3) := by decide +kernel
theorem dL_refuses_376 : decode cL_refuses 376 = .ok (.sipush (-1002), 3) := by decide +kernel
theorem dL_refuses_379 : decode cL_refuses 379 = .ok (.if_icmp .ne 7, 3) := by decide +kernel
theorem dL_refuses_382 : decode cL_refuses 382 = .ok (.iconst 1, 1) := by decide +kernel
theorem dL_refuses_383 : decode cL_refuses 383 = .ok (.goto 4, 3) := by decide +kernel
theorem dL_refuses_386 : decode cL_refuses 386 = .ok (.iconst 0, 1) := by decide +kernel
theorem dL_refuses_387 : decode cL_refuses 387 = .ok (.istore 5, 2) := by decide +kernel
theorem dL_refuses_389 : decode cL_refuses 389 = .ok (.iload 5, 2) := by decide +kernel
theorem dL_refuses_391 : decode cL_refuses 391 = .ok (.ifCond .eq 190, 3) := by decide +kernel
theorem dL_refuses_394 : decode cL_refuses 394 = .ok (.aload_n 0, 1) := by decide +kernel
theorem dL_refuses_395 : decode cL_refuses 395 = .ok (.iload_n 1, 1) := by decide +kernel
theorem dL_refuses_396 : decode cL_refuses 396 = .ok (.bipush 100, 2) := by decide +kernel
theorem dL_refuses_398 : decode cL_refuses 398 = .ok (.invokestatic 172, 3) := by decide +kernel
theorem dL_refuses_401 : decode cL_refuses 401 = .ok (.sipush (-1001), 3) := by decide +kernel
theorem dL_refuses_404 : decode cL_refuses 404 = .ok (.if_icmp .ne 177, 3) := by decide +kernel
theorem dL_refuses_407 : decode cL_refuses 407 = .ok (.aload_n 0, 1) := by decide +kernel
theorem dL_refuses_408 : decode cL_refuses 408 = .ok (.iconst 0, 1) := by decide +kernel
theorem dL_refuses_409 : decode cL_refuses 409 = .ok (.bipush 100, 2) := by decide +kernel
theorem dL_refuses_411 : decode cL_refuses 411 = .ok (.invokestatic 172, 3) := by decide +kernel
theorem dL_refuses_414 : decode cL_refuses 414 = .ok (.sipush (-1002), 3) := by decide +kernel
theorem dL_refuses_417 : decode cL_refuses 417 = .ok (.if_icmp .ne 164, 3) := by decide +kernel
theorem dL_refuses_420 : decode cL_refuses 420 = .ok (.aload_n 0, 1) := by decide +kernel
theorem dL_refuses_421 : decode cL_refuses 421 = .ok (.iload_n 2, 1) := by decide +kernel
theorem dL_refuses_422 : decode cL_refuses 422 = .ok (.iconst 0, 1) := by decide +kernel
theorem dL_refuses_423 : decode cL_refuses 423 = .ok (.invokestatic 175, 3) := by decide +kernel
theorem dL_refuses_426 : decode cL_refuses 426 = .ok (.sipush (-1001), 3) := by decide +kernel
theorem dL_refuses_429 : decode cL_refuses 429 = .ok (.if_icmp .ne 152, 3) := by decide +kernel
theorem dL_refuses_432 : decode cL_refuses 432 = .ok (.aload_n 0, 1) := by decide +kernel
theorem dL_refuses_433 : decode cL_refuses 433 = .ok (.iconst 0, 1) := by decide +kernel
theorem dL_refuses_434 : decode cL_refuses 434 = .ok (.iload_n 1, 1) := by decide +kernel
theorem dL_refuses_435 : decode cL_refuses 435 = .ok (.invokestatic 175, 3) := by decide +kernel
theorem dL_refuses_438 : decode cL_refuses 438 = .ok (.sipush (-1001), 3) := by decide +kernel
theorem dL_refuses_441 : decode cL_refuses 441 = .ok (.if_icmp .ne 140, 3) := by decide +kernel
theorem dL_refuses_444 : decode cL_refuses 444 = .ok (.aload_n 0, 1) := by decide +kernel
theorem dL_refuses_445 : decode cL_refuses 445 = .ok (.iconst 0, 1) := by decide +kernel
theorem dL_refuses_446 : decode cL_refuses 446 = .ok (.iload_n 1, 1) := by decide +kernel
theorem dL_refuses_447 : decode cL_refuses 447 = .ok (.invokestatic 178, 3) := by decide +kernel
theorem dL_refuses_450 : decode cL_refuses 450 = .ok (.sipush (-1001), 3) := by decide +kernel
theorem dL_refuses_453 : decode cL_refuses 453 = .ok (.if_icmp .ne 128, 3) := by decide +kernel
theorem dL_refuses_456 : decode cL_refuses 456 = .ok (.aload_n 0, 1) := by decide +kernel
theorem dL_refuses_457 : decode cL_refuses 457 = .ok (.bipush 100, 2) := by decide +kernel
theorem dL_refuses_459 : decode cL_refuses 459 = .ok (.iconst 0, 1) := by decide +kernel
theorem dL_refuses_460 : decode cL_refuses 460 = .ok (.invokestatic 181, 3) := by decide +kernel
theorem dL_refuses_463 : decode cL_refuses 463 = .ok (.sipush (-1002), 3) := by decide +kernel
theorem dL_refuses_466 : decode cL_refuses 466 = .ok (.if_icmp .ne 115, 3) := by decide +kernel
theorem dL_refuses_469 : decode cL_refuses 469 = .ok (.aload_n 0, 1) := by decide +kernel
theorem dL_refuses_470 : decode cL_refuses 470 = .ok (.iconst 0, 1) := by decide +kernel
theorem dL_refuses_471 : decode cL_refuses 471 = .ok (.iconst 5, 1) := by decide +kernel
theorem dL_refuses_472 : decode cL_refuses 472 = .ok (.invokestatic 181, 3) := by decide +kernel
theorem dL_refuses_475 : decode cL_refuses 475 = .ok (.sipush (-1002), 3) := by decide +kernel
theorem dL_refuses_478 : decode cL_refuses 478 = .ok (.if_icmp .ne 103, 3) := by decide +kernel
theorem dL_refuses_481 : decode cL_refuses 481 = .ok (.aload_n 0, 1) := by decide +kernel
theorem dL_refuses_482 : decode cL_refuses 482 = .ok (.iload_n 1, 1) := by decide +kernel
theorem dL_refuses_483 : decode cL_refuses 483 = .ok (.invokestatic 184, 3) := by decide +kernel
theorem dL_refuses_486 : decode cL_refuses 486 = .ok (.sipush (-1001), 3) := by decide +kernel
theorem dL_refuses_489 : decode cL_refuses 489 = .ok (.if_icmp .ne 92, 3) := by decide +kernel
theorem dL_refuses_492 : decode cL_refuses 492 = .ok (.aload_n 0, 1) := by decide +kernel
theorem dL_refuses_493 : decode cL_refuses 493 = .ok (.iconst (-1), 1) := by decide +kernel
theorem dL_refuses_494 : decode cL_refuses 494 = .ok (.invokestatic 187, 3) := by decide +kernel
theorem dL_refuses_497 : decode cL_refuses 497 = .ok (.sipush (-1001), 3) := by decide +kernel
theorem dL_refuses_500 : decode cL_refuses 500 = .ok (.if_icmp .ne 81, 3) := by decide +kernel
theorem dL_refuses_503 : decode cL_refuses 503 = .ok (.aload_n 0, 1) := by decide +kernel
theorem dL_refuses_504 : decode cL_refuses 504 = .ok (.iconst 4, 1) := by decide +kernel
theorem dL_refuses_505 : decode cL_refuses 505 = .ok (.lconst 0, 1) := by decide +kernel
theorem dL_refuses_506 : decode cL_refuses 506 = .ok (.invokestatic 190, 3) := by decide +kernel
theorem dL_refuses_509 : decode cL_refuses 509 = .ok (.sipush (-1002), 3) := by decide +kernel
theorem dL_refuses_512 : decode cL_refuses 512 = .ok (.if_icmp .ne 69, 3) := by decide +kernel
theorem dL_refuses_515 : decode cL_refuses 515 = .ok (.aload_n 0, 1) := by decide +kernel
theorem dL_refuses_516 : decode cL_refuses 516 = .ok (.iconst 1, 1) := by decide +kernel
theorem dL_refuses_517 : decode cL_refuses 517 = .ok (.ldc2_w 194, 3) := by decide +kernel
theorem dL_refuses_520 : decode cL_refuses 520 = .ok (.invokestatic 190, 3) := by decide +kernel
theorem dL_refuses_523 : decode cL_refuses 523 = .ok (.sipush (-1002), 3) := by decide +kernel
theorem dL_refuses_526 : decode cL_refuses 526 = .ok (.if_icmp .ne 55, 3) := by decide +kernel
theorem dL_refuses_529 : decode cL_refuses 529 = .ok (.aload_n 0, 1) := by decide +kernel
theorem dL_refuses_530 : decode cL_refuses 530 = .ok (.lconst 1, 1) := by decide +kernel
theorem dL_refuses_531 : decode cL_refuses 531 = .ok (.bipush 100, 2) := by decide +kernel
theorem dL_refuses_533 : decode cL_refuses 533 = .ok (.invokestatic 196, 3) := by decide +kernel
theorem dL_refuses_536 : decode cL_refuses 536 = .ok (.sipush (-1002), 3) := by decide +kernel
theorem dL_refuses_539 : decode cL_refuses 539 = .ok (.if_icmp .ne 42, 3) := by decide +kernel
theorem dL_refuses_542 : decode cL_refuses 542 = .ok (.aload_n 0, 1) := by decide +kernel
theorem dL_refuses_543 : decode cL_refuses 543 = .ok (.iconst 2, 1) := by decide +kernel
theorem dL_refuses_544 : decode cL_refuses 544 = .ok (.invokestatic 200, 3) := by decide +kernel
theorem dL_refuses_547 : decode cL_refuses 547 = .ok (.sipush (-1001), 3) := by decide +kernel
theorem dL_refuses_550 : decode cL_refuses 550 = .ok (.if_icmp .ne 31, 3) := by decide +kernel
theorem dL_refuses_553 : decode cL_refuses 553 = .ok (.aload_n 0, 1) := by decide +kernel
theorem dL_refuses_554 : decode cL_refuses 554 = .ok (.iconst (-1), 1) := by decide +kernel
theorem dL_refuses_555 : decode cL_refuses 555 = .ok (.invokestatic 142, 3) := by decide +kernel
theorem dL_refuses_558 : decode cL_refuses 558 = .ok (.sipush (-1001), 3) := by decide +kernel
theorem dL_refuses_561 : decode cL_refuses 561 = .ok (.if_icmp .ne 20, 3) := by decide +kernel
theorem dL_refuses_564 : decode cL_refuses 564 = .ok (.aload_n 0, 1) := by decide +kernel
theorem dL_refuses_565 : decode cL_refuses 565 = .ok (.sipush 256, 3) := by decide +kernel
theorem dL_refuses_568 : decode cL_refuses 568 = .ok (.invokestatic 97, 3) := by decide +kernel
theorem dL_refuses_571 : decode cL_refuses 571 = .ok (.sipush (-1002), 3) := by decide +kernel
theorem dL_refuses_574 : decode cL_refuses 574 = .ok (.if_icmp .ne 7, 3) := by decide +kernel
theorem dL_refuses_577 : decode cL_refuses 577 = .ok (.iconst 1, 1) := by decide +kernel
theorem dL_refuses_578 : decode cL_refuses 578 = .ok (.goto 4, 3) := by decide +kernel
theorem dL_refuses_581 : decode cL_refuses 581 = .ok (.iconst 0, 1) := by decide +kernel
theorem dL_refuses_582 : decode cL_refuses 582 = .ok (.ireturn, 1) := by decide +kernel
theorem dL_sound_0 : decode cL_sound 0 = .ok (.iconst 0, 1) := by decide +kernel
theorem dL_sound_1 : decode cL_sound 1 = .ok (.istore_n 1, 1) := by decide +kernel
theorem dL_sound_2 : decode cL_sound 2 = .ok (.iconst 0, 1) := by decide +kernel
theorem dL_sound_3 : decode cL_sound 3 = .ok (.istore_n 2, 1) := by decide +kernel
theorem dL_sound_4 : decode cL_sound 4 = .ok (.iconst 0, 1) := by decide +kernel
theorem dL_sound_5 : decode cL_sound 5 = .ok (.istore_n 3, 1) := by decide +kernel
theorem dL_sound_6 : decode cL_sound 6 = .ok (.iconst 1, 1) := by decide +kernel
theorem dL_sound_7 : decode cL_sound 7 = .ok (.istore 4, 2) := by decide +kernel
theorem dL_sound_9 : decode cL_sound 9 = .ok (.iconst 0, 1) := by decide +kernel
theorem dL_sound_10 : decode cL_sound 10 = .ok (.istore 5, 2) := by decide +kernel
theorem dL_sound_12 : decode cL_sound 12 = .ok (.iload 5, 2) := by decide +kernel
theorem dL_sound_14 : decode cL_sound 14 = .ok (.aload_n 0, 1) := by decide +kernel
theorem dL_sound_15 : decode cL_sound 15 = .ok (.iconst 1, 1) := by decide +kernel
theorem dL_sound_16 : decode cL_sound 16 = .ok (.invokestatic 129, 3) := by decide +kernel
theorem dL_sound_19 : decode cL_sound 19 = .ok (.if_icmp .ge 145, 3) := by decide +kernel
theorem dL_sound_22 : decode cL_sound 22 = .ok (.iload 4, 2) := by decide +kernel
theorem dL_sound_24 : decode cL_sound 24 = .ok (.ifCond .eq 140, 3) := by decide +kernel
theorem dL_sound_27 : decode cL_sound 27 = .ok (.aload_n 0, 1) := by decide +kernel
theorem dL_sound_28 : decode cL_sound 28 = .ok (.iload 5, 2) := by decide +kernel
theorem dL_sound_30 : decode cL_sound 30 = .ok (.iconst 5, 1) := by decide +kernel
theorem dL_sound_31 : decode cL_sound 31 = .ok (.invokestatic 135, 3) := by decide +kernel
theorem dL_sound_34 : decode cL_sound 34 = .ok (.istore 6, 2) := by decide +kernel
theorem dL_sound_36 : decode cL_sound 36 = .ok (.iload_n 1, 1) := by decide +kernel
theorem dL_sound_37 : decode cL_sound 37 = .ok (.aload_n 0, 1) := by decide +kernel
theorem dL_sound_38 : decode cL_sound 38 = .ok (.iload 5, 2) := by decide +kernel
theorem dL_sound_40 : decode cL_sound 40 = .ok (.iconst 4, 1) := by decide +kernel
theorem dL_sound_41 : decode cL_sound 41 = .ok (.invokestatic 135, 3) := by decide +kernel
theorem dL_sound_44 : decode cL_sound 44 = .ok (.iadd, 1) := by decide +kernel
theorem dL_sound_45 : decode cL_sound 45 = .ok (.istore_n 1, 1) := by decide +kernel
theorem dL_sound_46 : decode cL_sound 46 = .ok (.iload_n 2, 1) := by decide +kernel
theorem dL_sound_47 : decode cL_sound 47 = .ok (.aload_n 0, 1) := by decide +kernel
theorem dL_sound_48 : decode cL_sound 48 = .ok (.iload 5, 2) := by decide +kernel
theorem dL_sound_50 : decode cL_sound 50 = .ok (.bipush 7, 2) := by decide +kernel
theorem dL_sound_52 : decode cL_sound 52 = .ok (.invokestatic 135, 3) := by decide +kernel
theorem dL_sound_55 : decode cL_sound 55 = .ok (.iadd, 1) := by decide +kernel
theorem dL_sound_56 : decode cL_sound 56 = .ok (.istore_n 2, 1) := by decide +kernel
theorem dL_sound_57 : decode cL_sound 57 = .ok (.iload_n 3, 1) := by decide +kernel
theorem dL_sound_58 : decode cL_sound 58 = .ok (.iload 6, 2) := by decide +kernel
theorem dL_sound_60 : decode cL_sound 60 = .ok (.iconst 3, 1) := by decide +kernel
theorem dL_sound_61 : decode cL_sound 61 = .ok (.if_icmp .ne 7, 3) := by decide +kernel
theorem dL_sound_64 : decode cL_sound 64 = .ok (.iconst 1, 1) := by decide +kernel
theorem dL_sound_65 : decode cL_sound 65 = .ok (.goto 4, 3) := by decide +kernel
theorem dL_sound_68 : decode cL_sound 68 = .ok (.iconst 0, 1) := by decide +kernel
theorem dL_sound_69 : decode cL_sound 69 = .ok (.iadd, 1) := by decide +kernel
theorem dL_sound_70 : decode cL_sound 70 = .ok (.istore_n 3, 1) := by decide +kernel
theorem dL_sound_71 : decode cL_sound 71 = .ok (.aload_n 0, 1) := by decide +kernel
theorem dL_sound_72 : decode cL_sound 72 = .ok (.iload 5, 2) := by decide +kernel
theorem dL_sound_74 : decode cL_sound 74 = .ok (.iconst 4, 1) := by decide +kernel
theorem dL_sound_75 : decode cL_sound 75 = .ok (.invokestatic 135, 3) := by decide +kernel
theorem dL_sound_78 : decode cL_sound 78 = .ok (.ifCond .lt 77, 3) := by decide +kernel
theorem dL_sound_81 : decode cL_sound 81 = .ok (.aload_n 0, 1) := by decide +kernel
theorem dL_sound_82 : decode cL_sound 82 = .ok (.iload 5, 2) := by decide +kernel
theorem dL_sound_84 : decode cL_sound 84 = .ok (.iconst 4, 1) := by decide +kernel
theorem dL_sound_85 : decode cL_sound 85 = .ok (.invokestatic 135, 3) := by decide +kernel
theorem dL_sound_88 : decode cL_sound 88 = .ok (.aload_n 0, 1) := by decide +kernel
theorem dL_sound_89 : decode cL_sound 89 = .ok (.iload 5, 2) := by decide +kernel
theorem dL_sound_91 : decode cL_sound 91 = .ok (.iconst 0, 1) := by decide +kernel
theorem dL_sound_92 : decode cL_sound 92 = .ok (.invokestatic 135, 3) := by decide +kernel
theorem dL_sound_95 : decode cL_sound 95 = .ok (.if_icmp .gt 60, 3) := by decide +kernel
theorem dL_sound_98 : decode cL_sound 98 = .ok (.aload_n 0, 1) := by decide +kernel
theorem dL_sound_99 : decode cL_sound 99 = .ok (.iload 5, 2) := by decide +kernel
theorem dL_sound_101 : decode cL_sound 101 = .ok (.bipush 6, 2) := by decide +kernel
theorem dL_sound_103 : decode cL_sound 103 = .ok (.invokestatic 135, 3) := by decide +kernel
theorem dL_sound_106 : decode cL_sound 106 = .ok (.ifCond .le 7, 3) := by decide +kernel
theorem dL_sound_109 : decode cL_sound 109 = .ok (.iconst 1, 1) := by decide +kernel
theorem dL_sound_110 : decode cL_sound 110 = .ok (.goto 4, 3) := by decide +kernel
theorem dL_sound_113 : decode cL_sound 113 = .ok (.iconst 0, 1) := by decide +kernel
theorem dL_sound_114 : decode cL_sound 114 = .ok (.iload 6, 2) := by decide +kernel
theorem dL_sound_116 : decode cL_sound 116 = .ok (.iconst 1, 1) := by decide +kernel
theorem dL_sound_117 : decode cL_sound 117 = .ok (.if_icmp .eq 9, 3) := by decide +kernel
theorem dL_sound_120 : decode cL_sound 120 = .ok (.iload 6, 2) := by decide +kernel
theorem dL_sound_122 : decode cL_sound 122 = .ok (.iconst 4, 1) := by decide +kernel
theorem dL_sound_123 : decode cL_sound 123 = .ok (.if_icmp .ne 7, 3) := by decide +kernel
theorem dL_sound_126 : decode cL_sound 126 = .ok (.iconst 1, 1) := by decide +kernel
theorem dL_sound_127 : decode cL_sound 127 = .ok (.goto 4, 3) := by decide +kernel
theorem dL_sound_130 : decode cL_sound 130 = .ok (.iconst 0, 1) := by decide +kernel
theorem dL_sound_131 : decode cL_sound 131 = .ok (.if_icmp .ne 24, 3) := by decide +kernel
theorem dL_sound_134 : decode cL_sound 134 = .ok (.iload 6, 2) := by decide +kernel
theorem dL_sound_136 : decode cL_sound 136 = .ok (.iconst 3, 1) := by decide +kernel
theorem dL_sound_137 : decode cL_sound 137 = .ok (.if_icmp .ne 14, 3) := by decide +kernel
theorem dL_sound_140 : decode cL_sound 140 = .ok (.aload_n 0, 1) := by decide +kernel
theorem dL_sound_141 : decode cL_sound 141 = .ok (.bipush 8, 2) := by decide +kernel
theorem dL_sound_143 : decode cL_sound 143 = .ok (.invokestatic 129, 3) := by decide +kernel
theorem dL_sound_146 : decode cL_sound 146 = .ok (.iload 5, 2) := by decide +kernel
theorem dL_sound_148 : decode cL_sound 148 = .ok (.if_icmp .ne 7, 3) := by decide +kernel
theorem dL_sound_151 : decode cL_sound 151 = .ok (.iconst 1, 1) := by decide +kernel
theorem dL_sound_152 : decode cL_sound 152 = .ok (.goto 4, 3) := by decide +kernel
theorem dL_sound_155 : decode cL_sound 155 = .ok (.iconst 0, 1) := by decide +kernel
theorem dL_sound_156 : decode cL_sound 156 = .ok (.istore 4, 2) := by decide +kernel
theorem dL_sound_158 : decode cL_sound 158 = .ok (.iinc 5 1, 3) := by decide +kernel
theorem dL_sound_161 : decode cL_sound 161 = .ok (.goto (-149), 3) := by decide +kernel
theorem dL_sound_164 : decode cL_sound 164 = .ok (.aload_n 0, 1) := by decide +kernel
theorem dL_sound_165 : decode cL_sound 165 = .ok (.bipush 6, 2) := by decide +kernel
theorem dL_sound_167 : decode cL_sound 167 = .ok (.invokestatic 129, 3) := by decide +kernel
theorem dL_sound_170 : decode cL_sound 170 = .ok (.istore 5, 2) := by decide +kernel
theorem dL_sound_172 : decode cL_sound 172 = .ok (.iconst 0, 1) := by decide +kernel
theorem dL_sound_173 : decode cL_sound 173 = .ok (.istore 6, 2) := by decide +kernel
theorem dL_sound_175 : decode cL_sound 175 = .ok (.iconst 0, 1) := by decide +kernel
theorem dL_sound_176 : decode cL_sound 176 = .ok (.istore 7, 2) := by decide +kernel
theorem dL_sound_178 : decode cL_sound 178 = .ok (.iload 7, 2) := by decide +kernel
theorem dL_sound_180 : decode cL_sound 180 = .ok (.aload_n 0, 1) := by decide +kernel
theorem dL_sound_181 : decode cL_sound 181 = .ok (.iconst 0, 1) := by decide +kernel
theorem dL_sound_182 : decode cL_sound 182 = .ok (.invokestatic 129, 3) := by decide +kernel
theorem dL_sound_185 : decode cL_sound 185 = .ok (.if_icmp .ge 126, 3) := by decide +kernel
theorem dL_sound_188 : decode cL_sound 188 = .ok (.iload 4, 2) := by decide +kernel
theorem dL_sound_190 : decode cL_sound 190 = .ok (.ifCond .eq 121, 3) := by decide +kernel
theorem dL_sound_193 : decode cL_sound 193 = .ok (.iload 6, 2) := by decide +kernel
theorem dL_sound_195 : decode cL_sound 195 = .ok (.aload_n 0, 1) := by decide +kernel
theorem dL_sound_196 : decode cL_sound 196 = .ok (.iload 7, 2) := by decide +kernel
theorem dL_sound_198 : decode cL_sound 198 = .ok (.iconst 0, 1) := by decide +kernel
theorem dL_sound_199 : decode cL_sound 199 = .ok (.invokestatic 145, 3) := by decide +kernel
theorem dL_sound_202 : decode cL_sound 202 = .ok (.aload_n 0, 1) := by decide +kernel
theorem dL_sound_203 : decode cL_sound 203 = .ok (.iload 7, 2) := by decide +kernel
theorem dL_sound_205 : decode cL_sound 205 = .ok (.iconst 4, 1) := by decide +kernel
theorem dL_sound_206 : decode cL_sound 206 = .ok (.invokestatic 145, 3) := by decide +kernel
theorem dL_sound_209 : decode cL_sound 209 = .ok (.isub, 1) := by decide +kernel
theorem dL_sound_210 : decode cL_sound 210 = .ok (.iadd, 1) := by decide +kernel
theorem dL_sound_211 : decode cL_sound 211 = .ok (.istore 6, 2) := by decide +kernel
