theorem dL_addWheel_0 : decode cL_addWheel 0 = .ok (.aload_n 3, 1) := by decide +kernel
theorem dL_addWheel_1 : decode cL_addWheel 1 = .ok (.iconst 0, 1) := by decide +kernel
theorem dL_addWheel_2 : decode cL_addWheel 2 = .ok (.aload_n 0, 1) := by decide +kernel
theorem dL_addWheel_3 : decode cL_addWheel 3 = .ok (.iload_n 1, 1) := by decide +kernel
theorem dL_addWheel_4 : decode cL_addWheel 4 = .ok (.iload_n 2, 1) := by decide +kernel
theorem dL_addWheel_5 : decode cL_addWheel 5 = .ok (.invokevirtual 7, 3) := by decide +kernel
theorem dL_addWheel_8 : decode cL_addWheel 8 = .ok (.i2l, 1) := by decide +kernel
theorem dL_addWheel_9 : decode cL_addWheel 9 = .ok (.lastore, 1) := by decide +kernel
theorem dL_addWheel_10 : decode cL_addWheel 10 = .ok (.goto 11, 3) := by decide +kernel
theorem dL_addWheel_13 : decode cL_addWheel 13 = .ok (.astore 4, 2) := by decide +kernel
theorem dL_addWheel_15 : decode cL_addWheel 15 = .ok (.iconst 1, 1) := by decide +kernel
theorem dL_addWheel_16 : decode cL_addWheel 16 = .ok (.ireturn, 1) := by decide +kernel
theorem dL_addWheel_17 : decode cL_addWheel 17 = .ok (.astore 4, 2) := by decide +kernel
theorem dL_addWheel_19 : decode cL_addWheel 19 = .ok (.iconst 2, 1) := by decide +kernel
theorem dL_addWheel_20 : decode cL_addWheel 20 = .ok (.ireturn, 1) := by decide +kernel
theorem dL_addWheel_21 : decode cL_addWheel 21 = .ok (.iconst 0, 1) := by decide +kernel
theorem dL_addWheel_22 : decode cL_addWheel 22 = .ok (.ireturn, 1) := by decide +kernel
theorem dL_moved_0 : decode cL_moved 0 = .ok (.aload_n 2, 1) := by decide +kernel
theorem dL_moved_1 : decode cL_moved 1 = .ok (.iconst 0, 1) := by decide +kernel
theorem dL_moved_2 : decode cL_moved 2 = .ok (.aload_n 0, 1) := by decide +kernel
theorem dL_moved_3 : decode cL_moved 3 = .ok (.iload_n 1, 1) := by decide +kernel
theorem dL_moved_4 : decode cL_moved 4 = .ok (.invokevirtual 17, 3) := by decide +kernel
theorem dL_moved_7 : decode cL_moved 7 = .ok (.i2l, 1) := by decide +kernel
theorem dL_moved_8 : decode cL_moved 8 = .ok (.lastore, 1) := by decide +kernel
theorem dL_moved_9 : decode cL_moved 9 = .ok (.goto 6, 3) := by decide +kernel
theorem dL_moved_12 : decode cL_moved 12 = .ok (.astore_n 3, 1) := by decide +kernel
theorem dL_moved_13 : decode cL_moved 13 = .ok (.iconst 1, 1) := by decide +kernel
theorem dL_moved_14 : decode cL_moved 14 = .ok (.ireturn, 1) := by decide +kernel
theorem dL_moved_15 : decode cL_moved 15 = .ok (.iconst 0, 1) := by decide +kernel
theorem dL_moved_16 : decode cL_moved 16 = .ok (.ireturn, 1) := by decide +kernel
theorem dL_wholeTurns_0 : decode cL_wholeTurns 0 = .ok (.aload_n 2, 1) := by decide +kernel
theorem dL_wholeTurns_1 : decode cL_wholeTurns 1 = .ok (.iconst 0, 1) := by decide +kernel
theorem dL_wholeTurns_2 : decode cL_wholeTurns 2 = .ok (.aload_n 0, 1) := by decide +kernel
theorem dL_wholeTurns_3 : decode cL_wholeTurns 3 = .ok (.iload_n 1, 1) := by decide +kernel
theorem dL_wholeTurns_4 : decode cL_wholeTurns 4 = .ok (.invokevirtual 23, 3) := by decide +kernel
theorem dL_wholeTurns_7 : decode cL_wholeTurns 7 = .ok (.i2l, 1) := by decide +kernel
theorem dL_wholeTurns_8 : decode cL_wholeTurns 8 = .ok (.lastore, 1) := by decide +kernel
theorem dL_wholeTurns_9 : decode cL_wholeTurns 9 = .ok (.goto 6, 3) := by decide +kernel
theorem dL_wholeTurns_12 : decode cL_wholeTurns 12 = .ok (.astore_n 3, 1) := by decide +kernel
theorem dL_wholeTurns_13 : decode cL_wholeTurns 13 = .ok (.iconst 1, 1) := by decide +kernel
theorem dL_wholeTurns_14 : decode cL_wholeTurns 14 = .ok (.ireturn, 1) := by decide +kernel
theorem dL_wholeTurns_15 : decode cL_wholeTurns 15 = .ok (.iconst 0, 1) := by decide +kernel
theorem dL_wholeTurns_16 : decode cL_wholeTurns 16 = .ok (.ireturn, 1) := by decide +kernel
theorem dL_beatsForTurn_0 : decode cL_beatsForTurn 0 = .ok (.aload_n 2, 1) := by decide +kernel
theorem dL_beatsForTurn_1 : decode cL_beatsForTurn 1 = .ok (.iconst 0, 1) := by decide +kernel
theorem dL_beatsForTurn_2 : decode cL_beatsForTurn 2 = .ok (.aload_n 0, 1) := by decide +kernel
theorem dL_beatsForTurn_3 : decode cL_beatsForTurn 3 = .ok (.iload_n 1, 1) := by decide +kernel
theorem dL_beatsForTurn_4 : decode cL_beatsForTurn 4 = .ok (.invokevirtual 26, 3) := by decide +kernel
theorem dL_beatsForTurn_7 : decode cL_beatsForTurn 7 = .ok (.dastore, 1) := by decide +kernel
theorem dL_beatsForTurn_8 : decode cL_beatsForTurn 8 = .ok (.goto 6, 3) := by decide +kernel
theorem dL_beatsForTurn_11 : decode cL_beatsForTurn 11 = .ok (.astore_n 3, 1) := by decide +kernel
theorem dL_beatsForTurn_12 : decode cL_beatsForTurn 12 = .ok (.iconst 1, 1) := by decide +kernel
theorem dL_beatsForTurn_13 : decode cL_beatsForTurn 13 = .ok (.ireturn, 1) := by decide +kernel
theorem dL_beatsForTurn_14 : decode cL_beatsForTurn 14 = .ok (.iconst 0, 1) := by decide +kernel
theorem dL_beatsForTurn_15 : decode cL_beatsForTurn 15 = .ok (.ireturn, 1) := by decide +kernel
theorem dL_movedAhead_0 : decode cL_movedAhead 0 = .ok (.aload_n 3, 1) := by decide +kernel
theorem dL_movedAhead_1 : decode cL_movedAhead 1 = .ok (.iconst 0, 1) := by decide +kernel
theorem dL_movedAhead_2 : decode cL_movedAhead 2 = .ok (.aload_n 0, 1) := by decide +kernel
theorem dL_movedAhead_3 : decode cL_movedAhead 3 = .ok (.iload_n 1, 1) := by decide +kernel
theorem dL_movedAhead_4 : decode cL_movedAhead 4 = .ok (.iload_n 2, 1) := by decide +kernel
theorem dL_movedAhead_5 : decode cL_movedAhead 5 = .ok (.invokevirtual 30, 3) := by decide +kernel
theorem dL_movedAhead_8 : decode cL_movedAhead 8 = .ok (.i2l, 1) := by decide +kernel
theorem dL_movedAhead_9 : decode cL_movedAhead 9 = .ok (.lastore, 1) := by decide +kernel
theorem dL_movedAhead_10 : decode cL_movedAhead 10 = .ok (.goto 11, 3) := by decide +kernel
theorem dL_movedAhead_13 : decode cL_movedAhead 13 = .ok (.astore 4, 2) := by decide +kernel
theorem dL_movedAhead_15 : decode cL_movedAhead 15 = .ok (.iconst 1, 1) := by decide +kernel
theorem dL_movedAhead_16 : decode cL_movedAhead 16 = .ok (.ireturn, 1) := by decide +kernel
theorem dL_movedAhead_17 : decode cL_movedAhead 17 = .ok (.astore 4, 2) := by decide +kernel
theorem dL_movedAhead_19 : decode cL_movedAhead 19 = .ok (.iconst 2, 1) := by decide +kernel
theorem dL_movedAhead_20 : decode cL_movedAhead 20 = .ok (.ireturn, 1) := by decide +kernel
theorem dL_movedAhead_21 : decode cL_movedAhead 21 = .ok (.iconst 0, 1) := by decide +kernel
theorem dL_movedAhead_22 : decode cL_movedAhead 22 = .ok (.ireturn, 1) := by decide +kernel
theorem dL_movedByBeats_0 : decode cL_movedByBeats 0 = .ok (.aload_n 3, 1) := by decide +kernel
theorem dL_movedByBeats_1 : decode cL_movedByBeats 1 = .ok (.iconst 0, 1) := by decide +kernel
theorem dL_movedByBeats_2 : decode cL_movedByBeats 2 = .ok (.aload_n 0, 1) := by decide +kernel
theorem dL_movedByBeats_3 : decode cL_movedByBeats 3 = .ok (.iload_n 1, 1) := by decide +kernel
theorem dL_movedByBeats_4 : decode cL_movedByBeats 4 = .ok (.iload_n 2, 1) := by decide +kernel
theorem dL_movedByBeats_5 : decode cL_movedByBeats 5 = .ok (.invokevirtual 33, 3) := by decide +kernel
theorem dL_movedByBeats_8 : decode cL_movedByBeats 8 = .ok (.i2l, 1) := by decide +kernel
theorem dL_movedByBeats_9 : decode cL_movedByBeats 9 = .ok (.lastore, 1) := by decide +kernel
theorem dL_movedByBeats_10 : decode cL_movedByBeats 10 = .ok (.goto 11, 3) := by decide +kernel
theorem dL_movedByBeats_13 : decode cL_movedByBeats 13 = .ok (.astore 4, 2) := by decide +kernel
theorem dL_movedByBeats_15 : decode cL_movedByBeats 15 = .ok (.iconst 1, 1) := by decide +kernel
theorem dL_movedByBeats_16 : decode cL_movedByBeats 16 = .ok (.ireturn, 1) := by decide +kernel
theorem dL_movedByBeats_17 : decode cL_movedByBeats 17 = .ok (.astore 4, 2) := by decide +kernel
theorem dL_movedByBeats_19 : decode cL_movedByBeats 19 = .ok (.iconst 2, 1) := by decide +kernel
theorem dL_movedByBeats_20 : decode cL_movedByBeats 20 = .ok (.ireturn, 1) := by decide +kernel
theorem dL_movedByBeats_21 : decode cL_movedByBeats 21 = .ok (.iconst 0, 1) := by decide +kernel
theorem dL_movedByBeats_22 : decode cL_movedByBeats 22 = .ok (.ireturn, 1) := by decide +kernel
theorem dL_setBeat_0 : decode cL_setBeat 0 = .ok (.aload_n 3, 1) := by decide +kernel
theorem dL_setBeat_1 : decode cL_setBeat 1 = .ok (.iconst 0, 1) := by decide +kernel
theorem dL_setBeat_2 : decode cL_setBeat 2 = .ok (.aload_n 0, 1) := by decide +kernel
theorem dL_setBeat_3 : decode cL_setBeat 3 = .ok (.iload_n 1, 1) := by decide +kernel
theorem dL_setBeat_4 : decode cL_setBeat 4 = .ok (.iload_n 2, 1) := by decide +kernel
theorem dL_setBeat_5 : decode cL_setBeat 5 = .ok (.invokevirtual 36, 3) := by decide +kernel
theorem dL_setBeat_8 : decode cL_setBeat 8 = .ok (.i2l, 1) := by decide +kernel
theorem dL_setBeat_9 : decode cL_setBeat 9 = .ok (.lastore, 1) := by decide +kernel
theorem dL_setBeat_10 : decode cL_setBeat 10 = .ok (.goto 7, 3) := by decide +kernel
theorem dL_setBeat_13 : decode cL_setBeat 13 = .ok (.astore 4, 2) := by decide +kernel
theorem dL_setBeat_15 : decode cL_setBeat 15 = .ok (.iconst 1, 1) := by decide +kernel
theorem dL_setBeat_16 : decode cL_setBeat 16 = .ok (.ireturn, 1) := by decide +kernel
theorem dL_setBeat_17 : decode cL_setBeat 17 = .ok (.iconst 0, 1) := by decide +kernel
theorem dL_setBeat_18 : decode cL_setBeat 18 = .ok (.ireturn, 1) := by decide +kernel
theorem dL_pass_0 : decode cL_pass 0 = .ok (.aload_n 2, 1) := by decide +kernel
theorem dL_pass_1 : decode cL_pass 1 = .ok (.iconst 0, 1) := by decide +kernel
theorem dL_pass_2 : decode cL_pass 2 = .ok (.aload_n 0, 1) := by decide +kernel
theorem dL_pass_3 : decode cL_pass 3 = .ok (.iload_n 1, 1) := by decide +kernel
theorem dL_pass_4 : decode cL_pass 4 = .ok (.invokevirtual 39, 3) := by decide +kernel
theorem dL_pass_7 : decode cL_pass 7 = .ok (.i2l, 1) := by decide +kernel
theorem dL_pass_8 : decode cL_pass 8 = .ok (.lastore, 1) := by decide +kernel
theorem dL_pass_9 : decode cL_pass 9 = .ok (.goto 6, 3) := by decide +kernel
theorem dL_pass_12 : decode cL_pass 12 = .ok (.astore_n 3, 1) := by decide +kernel
theorem dL_pass_13 : decode cL_pass 13 = .ok (.iconst 1, 1) := by decide +kernel
theorem dL_pass_14 : decode cL_pass 14 = .ok (.ireturn, 1) := by decide +kernel
theorem dL_pass_15 : decode cL_pass 15 = .ok (.iconst 0, 1) := by decide +kernel
theorem dL_pass_16 : decode cL_pass 16 = .ok (.ireturn, 1) := by decide +kernel
theorem dL_owe_0 : decode cL_owe 0 = .ok (.aload_n 2, 1) := by decide +kernel
theorem dL_owe_1 : decode cL_owe 1 = .ok (.iconst 0, 1) := by decide +kernel
theorem dL_owe_2 : decode cL_owe 2 = .ok (.aload_n 0, 1) := by decide +kernel
theorem dL_owe_3 : decode cL_owe 3 = .ok (.iload_n 1, 1) := by decide +kernel
theorem dL_owe_4 : decode cL_owe 4 = .ok (.invokevirtual 42, 3) := by decide +kernel
theorem dL_owe_7 : decode cL_owe 7 = .ok (.i2l, 1) := by decide +kernel
theorem dL_owe_8 : decode cL_owe 8 = .ok (.lastore, 1) := by decide +kernel
theorem dL_owe_9 : decode cL_owe 9 = .ok (.goto 6, 3) := by decide +kernel
theorem dL_owe_12 : decode cL_owe 12 = .ok (.astore_n 3, 1) := by decide +kernel
theorem dL_owe_13 : decode cL_owe 13 = .ok (.iconst 1, 1) := by decide +kernel
theorem dL_owe_14 : decode cL_owe 14 = .ok (.ireturn, 1) := by decide +kernel
theorem dL_owe_15 : decode cL_owe 15 = .ok (.iconst 0, 1) := by decide +kernel
theorem dL_owe_16 : decode cL_owe 16 = .ok (.ireturn, 1) := by decide +kernel
theorem dL_setBound_0 : decode cL_setBound 0 = .ok (.aload_n 2, 1) := by decide +kernel
theorem dL_setBound_1 : decode cL_setBound 1 = .ok (.iconst 0, 1) := by decide +kernel
theorem dL_setBound_2 : decode cL_setBound 2 = .ok (.aload_n 0, 1) := by decide +kernel
theorem dL_setBound_3 : decode cL_setBound 3 = .ok (.iload_n 1, 1) := by decide +kernel
theorem dL_setBound_4 : decode cL_setBound 4 = .ok (.invokevirtual 45, 3) := by decide +kernel
theorem dL_setBound_7 : decode cL_setBound 7 = .ok (.i2l, 1) := by decide +kernel
theorem dL_setBound_8 : decode cL_setBound 8 = .ok (.lastore, 1) := by decide +kernel
theorem dL_setBound_9 : decode cL_setBound 9 = .ok (.goto 6, 3) := by decide +kernel
theorem dL_setBound_12 : decode cL_setBound 12 = .ok (.astore_n 3, 1) := by decide +kernel
theorem dL_setBound_13 : decode cL_setBound 13 = .ok (.iconst 1, 1) := by decide +kernel
theorem dL_setBound_14 : decode cL_setBound 14 = .ok (.ireturn, 1) := by decide +kernel
theorem dL_setBound_15 : decode cL_setBound 15 = .ok (.iconst 0, 1) := by decide +kernel
theorem dL_setBound_16 : decode cL_setBound 16 = .ok (.ireturn, 1) := by decide +kernel
theorem dL_setDate_0 : decode cL_setDate 0 = .ok (.aload 4, 2) := by decide +kernel
theorem dL_setDate_2 : decode cL_setDate 2 = .ok (.iconst 0, 1) := by decide +kernel
theorem dL_setDate_3 : decode cL_setDate 3 = .ok (.aload_n 0, 1) := by decide +kernel
theorem dL_setDate_4 : decode cL_setDate 4 = .ok (.iload_n 1, 1) := by decide +kernel
theorem dL_setDate_5 : decode cL_setDate 5 = .ok (.iload_n 2, 1) := by decide +kernel
theorem dL_setDate_6 : decode cL_setDate 6 = .ok (.iload_n 3, 1) := by decide +kernel
theorem dL_setDate_7 : decode cL_setDate 7 = .ok (.invokevirtual 48, 3) := by decide +kernel
theorem dL_setDate_10 : decode cL_setDate 10 = .ok (.i2l, 1) := by decide +kernel
theorem dL_setDate_11 : decode cL_setDate 11 = .ok (.lastore, 1) := by decide +kernel
theorem dL_setDate_12 : decode cL_setDate 12 = .ok (.goto 7, 3) := by decide +kernel
theorem dL_setDate_15 : decode cL_setDate 15 = .ok (.astore 5, 2) := by decide +kernel
theorem dL_setDate_17 : decode cL_setDate 17 = .ok (.iconst 1, 1) := by decide +kernel
theorem dL_setDate_18 : decode cL_setDate 18 = .ok (.ireturn, 1) := by decide +kernel
theorem dL_setDate_19 : decode cL_setDate 19 = .ok (.iconst 0, 1) := by decide +kernel
theorem dL_setDate_20 : decode cL_setDate 20 = .ok (.ireturn, 1) := by decide +kernel
theorem dL_isLeap_0 : decode cL_isLeap 0 = .ok (.aload_n 2, 1) := by decide +kernel
theorem dL_isLeap_1 : decode cL_isLeap 1 = .ok (.iconst 0, 1) := by decide +kernel
theorem dL_isLeap_2 : decode cL_isLeap 2 = .ok (.aload_n 0, 1) := by decide +kernel
theorem dL_isLeap_3 : decode cL_isLeap 3 = .ok (.iload_n 1, 1) := by decide +kernel
theorem dL_isLeap_4 : decode cL_isLeap 4 = .ok (.invokevirtual 52, 3) := by decide +kernel
theorem dL_isLeap_7 : decode cL_isLeap 7 = .ok (.ifCond .eq 7, 3) := by decide +kernel
theorem dL_isLeap_10 : decode cL_isLeap 10 = .ok (.lconst 1, 1) := by decide +kernel
theorem dL_isLeap_11 : decode cL_isLeap 11 = .ok (.goto 4, 3) := by decide +kernel
theorem dL_isLeap_14 : decode cL_isLeap 14 = .ok (.lconst 0, 1) := by decide +kernel
theorem dL_isLeap_15 : decode cL_isLeap 15 = .ok (.lastore, 1) := by decide +kernel
theorem dL_isLeap_16 : decode cL_isLeap 16 = .ok (.goto 6, 3) := by decide +kernel
theorem dL_isLeap_19 : decode cL_isLeap 19 = .ok (.astore_n 3, 1) := by decide +kernel
theorem dL_isLeap_20 : decode cL_isLeap 20 = .ok (.iconst 1, 1) := by decide +kernel
theorem dL_isLeap_21 : decode cL_isLeap 21 = .ok (.ireturn, 1) := by decide +kernel
theorem dL_isLeap_22 : decode cL_isLeap 22 = .ok (.iconst 0, 1) := by decide +kernel
theorem dL_isLeap_23 : decode cL_isLeap 23 = .ok (.ireturn, 1) := by decide +kernel
theorem dL_numberOf_0 : decode cL_numberOf 0 = .ok (.aload 4, 2) := by decide +kernel
theorem dL_numberOf_2 : decode cL_numberOf 2 = .ok (.iconst 0, 1) := by decide +kernel
theorem dL_numberOf_3 : decode cL_numberOf 3 = .ok (.aload_n 0, 1) := by decide +kernel
theorem dL_numberOf_4 : decode cL_numberOf 4 = .ok (.iload_n 1, 1) := by decide +kernel
theorem dL_numberOf_5 : decode cL_numberOf 5 = .ok (.iload_n 2, 1) := by decide +kernel
theorem dL_numberOf_6 : decode cL_numberOf 6 = .ok (.iload_n 3, 1) := by decide +kernel
theorem dL_numberOf_7 : decode cL_numberOf 7 = .ok (.invokevirtual 56, 3) := by decide +kernel
theorem dL_numberOf_10 : decode cL_numberOf 10 = .ok (.lastore, 1) := by decide +kernel
theorem dL_numberOf_11 : decode cL_numberOf 11 = .ok (.goto 7, 3) := by decide +kernel
theorem dL_numberOf_14 : decode cL_numberOf 14 = .ok (.astore 5, 2) := by decide +kernel
theorem dL_numberOf_16 : decode cL_numberOf 16 = .ok (.iconst 1, 1) := by decide +kernel
theorem dL_numberOf_17 : decode cL_numberOf 17 = .ok (.ireturn, 1) := by decide +kernel
theorem dL_numberOf_18 : decode cL_numberOf 18 = .ok (.iconst 0, 1) := by decide +kernel
theorem dL_numberOf_19 : decode cL_numberOf 19 = .ok (.ireturn, 1) := by decide +kernel
theorem dL_numberByCounting_0 : decode cL_numberByCounting 0 = .ok (.aload 4, 2) := by decide +kernel
theorem dL_numberByCounting_2 : decode cL_numberByCounting 2 = .ok (.iconst 0, 1) := by decide +kernel
theorem dL_numberByCounting_3 : decode cL_numberByCounting 3 = .ok (.aload_n 0, 1) := by decide +kernel
theorem dL_numberByCounting_4 : decode cL_numberByCounting 4 = .ok (.iload_n 1, 1) := by decide +kernel
theorem dL_numberByCounting_5 : decode cL_numberByCounting 5 = .ok (.iload_n 2, 1) := by decide +kernel
theorem dL_numberByCounting_6 : decode cL_numberByCounting 6 = .ok (.iload_n 3, 1) := by decide +kernel
theorem dL_numberByCounting_7 : decode cL_numberByCounting 7 = .ok (.invokevirtual 60, 3) := by decide +kernel
theorem dL_numberByCounting_10 : decode cL_numberByCounting 10 = .ok (.lastore, 1) := by decide +kernel
theorem dL_numberByCounting_11 : decode cL_numberByCounting 11 = .ok (.goto 7, 3) := by decide +kernel
theorem dL_numberByCounting_14 : decode cL_numberByCounting 14 = .ok (.astore 5, 2) := by decide +kernel
theorem dL_numberByCounting_16 : decode cL_numberByCounting 16 = .ok (.iconst 1, 1) := by decide +kernel
theorem dL_numberByCounting_17 : decode cL_numberByCounting 17 = .ok (.ireturn, 1) := by decide +kernel
theorem dL_numberByCounting_18 : decode cL_numberByCounting 18 = .ok (.iconst 0, 1) := by decide +kernel
theorem dL_numberByCounting_19 : decode cL_numberByCounting 19 = .ok (.ireturn, 1) := by decide +kernel
theorem dL_setSilence_0 : decode cL_setSilence 0 = .ok (.aload_n 3, 1) := by decide +kernel
theorem dL_setSilence_1 : decode cL_setSilence 1 = .ok (.iconst 0, 1) := by decide +kernel
theorem dL_setSilence_2 : decode cL_setSilence 2 = .ok (.aload_n 0, 1) := by decide +kernel
theorem dL_setSilence_3 : decode cL_setSilence 3 = .ok (.iload_n 1, 1) := by decide +kernel
theorem dL_setSilence_4 : decode cL_setSilence 4 = .ok (.iload_n 2, 1) := by decide +kernel
theorem dL_setSilence_5 : decode cL_setSilence 5 = .ok (.invokevirtual 63, 3) := by decide +kernel
theorem dL_setSilence_8 : decode cL_setSilence 8 = .ok (.i2l, 1) := by decide +kernel
theorem dL_setSilence_9 : decode cL_setSilence 9 = .ok (.lastore, 1) := by decide +kernel
theorem dL_setSilence_10 : decode cL_setSilence 10 = .ok (.goto 7, 3) := by decide +kernel
theorem dL_setSilence_13 : decode cL_setSilence 13 = .ok (.astore 4, 2) := by decide +kernel
theorem dL_setSilence_15 : decode cL_setSilence 15 = .ok (.iconst 1, 1) := by decide +kernel
theorem dL_setSilence_16 : decode cL_setSilence 16 = .ok (.ireturn, 1) := by decide +kernel
theorem dL_setSilence_17 : decode cL_setSilence 17 = .ok (.iconst 0, 1) := by decide +kernel
theorem dL_setSilence_18 : decode cL_setSilence 18 = .ok (.ireturn, 1) := by decide +kernel
theorem dL_addDrum_0 : decode cL_addDrum 0 = .ok (.aload_n 1, 1) := by decide +kernel
theorem dL_addDrum_1 : decode cL_addDrum 1 = .ok (.iconst 0, 1) := by decide +kernel
theorem dL_addDrum_2 : decode cL_addDrum 2 = .ok (.aload_n 0, 1) := by decide +kernel
theorem dL_addDrum_3 : decode cL_addDrum 3 = .ok (.invokevirtual 66, 3) := by decide +kernel
theorem dL_addDrum_6 : decode cL_addDrum 6 = .ok (.i2l, 1) := by decide +kernel
theorem dL_addDrum_7 : decode cL_addDrum 7 = .ok (.lastore, 1) := by decide +kernel
theorem dL_addDrum_8 : decode cL_addDrum 8 = .ok (.goto 6, 3) := by decide +kernel
theorem dL_addDrum_11 : decode cL_addDrum 11 = .ok (.astore_n 2, 1) := by decide +kernel
theorem dL_addDrum_12 : decode cL_addDrum 12 = .ok (.iconst 1, 1) := by decide +kernel
theorem dL_addDrum_13 : decode cL_addDrum 13 = .ok (.ireturn, 1) := by decide +kernel
theorem dL_addDrum_14 : decode cL_addDrum 14 = .ok (.iconst 0, 1) := by decide +kernel
theorem dL_addDrum_15 : decode cL_addDrum 15 = .ok (.ireturn, 1) := by decide +kernel
theorem dL_setPin_0 : decode cL_setPin 0 = .ok (.aload 5, 2) := by decide +kernel
theorem dL_setPin_2 : decode cL_setPin 2 = .ok (.iconst 0, 1) := by decide +kernel
theorem dL_setPin_3 : decode cL_setPin 3 = .ok (.aload_n 0, 1) := by decide +kernel
theorem dL_setPin_4 : decode cL_setPin 4 = .ok (.iload_n 1, 1) := by decide +kernel
theorem dL_setPin_5 : decode cL_setPin 5 = .ok (.iload_n 2, 1) := by decide +kernel
theorem dL_setPin_6 : decode cL_setPin 6 = .ok (.iload_n 3, 1) := by decide +kernel
theorem dL_setPin_7 : decode cL_setPin 7 = .ok (.iload 4, 2) := by decide +kernel
theorem dL_setPin_9 : decode cL_setPin 9 = .ok (.invokevirtual 70, 3) := by decide +kernel
theorem dL_setPin_12 : decode cL_setPin 12 = .ok (.ifCond .eq 7, 3) := by decide +kernel
theorem dL_setPin_15 : decode cL_setPin 15 = .ok (.lconst 1, 1) := by decide +kernel
theorem dL_setPin_16 : decode cL_setPin 16 = .ok (.goto 4, 3) := by decide +kernel
theorem dL_setPin_19 : decode cL_setPin 19 = .ok (.lconst 0, 1) := by decide +kernel
theorem dL_setPin_20 : decode cL_setPin 20 = .ok (.lastore, 1) := by decide +kernel
theorem dL_setPin_21 : decode cL_setPin 21 = .ok (.goto 11, 3) := by decide +kernel
theorem dL_setPin_24 : decode cL_setPin 24 = .ok (.astore 6, 2) := by decide +kernel
theorem dL_setPin_26 : decode cL_setPin 26 = .ok (.iconst 1, 1) := by decide +kernel
theorem dL_setPin_27 : decode cL_setPin 27 = .ok (.ireturn, 1) := by decide +kernel
theorem dL_setPin_28 : decode cL_setPin 28 = .ok (.astore 6, 2) := by decide +kernel
theorem dL_setPin_30 : decode cL_setPin 30 = .ok (.iconst 2, 1) := by decide +kernel
theorem dL_setPin_31 : decode cL_setPin 31 = .ok (.ireturn, 1) := by decide +kernel
theorem dL_setPin_32 : decode cL_setPin 32 = .ok (.iconst 0, 1) := by decide +kernel
theorem dL_setPin_33 : decode cL_setPin 33 = .ok (.ireturn, 1) := by decide +kernel
theorem dL_pins_0 : decode cL_pins 0 = .ok (.aload_n 2, 1) := by decide +kernel
theorem dL_pins_1 : decode cL_pins 1 = .ok (.iconst 0, 1) := by decide +kernel
theorem dL_pins_2 : decode cL_pins 2 = .ok (.aload_n 0, 1) := by decide +kernel
theorem dL_pins_3 : decode cL_pins 3 = .ok (.iload_n 1, 1) := by decide +kernel
theorem dL_pins_4 : decode cL_pins 4 = .ok (.invokevirtual 74, 3) := by decide +kernel
theorem dL_pins_7 : decode cL_pins 7 = .ok (.i2l, 1) := by decide +kernel
theorem dL_pins_8 : decode cL_pins 8 = .ok (.lastore, 1) := by decide +kernel
theorem dL_pins_9 : decode cL_pins 9 = .ok (.goto 6, 3) := by decide +kernel
theorem dL_pins_12 : decode cL_pins 12 = .ok (.astore_n 3, 1) := by decide +kernel
theorem dL_pins_13 : decode cL_pins 13 = .ok (.iconst 1, 1) := by decide +kernel
theorem dL_pins_14 : decode cL_pins 14 = .ok (.ireturn, 1) := by decide +kernel
theorem dL_pins_15 : decode cL_pins 15 = .ok (.iconst 0, 1) := by decide +kernel
theorem dL_pins_16 : decode cL_pins 16 = .ok (.ireturn, 1) := by decide +kernel
theorem dL_bellAt_0 : decode cL_bellAt 0 = .ok (.aload_n 3, 1) := by decide +kernel
theorem dL_bellAt_1 : decode cL_bellAt 1 = .ok (.iconst 0, 1) := by decide +kernel
theorem dL_bellAt_2 : decode cL_bellAt 2 = .ok (.aload_n 0, 1) := by decide +kernel
theorem dL_bellAt_3 : decode cL_bellAt 3 = .ok (.iload_n 1, 1) := by decide +kernel
theorem dL_bellAt_4 : decode cL_bellAt 4 = .ok (.iload_n 2, 1) := by decide +kernel
theorem dL_bellAt_5 : decode cL_bellAt 5 = .ok (.invokevirtual 77, 3) := by decide +kernel
theorem dL_bellAt_8 : decode cL_bellAt 8 = .ok (.i2l, 1) := by decide +kernel
theorem dL_bellAt_9 : decode cL_bellAt 9 = .ok (.lastore, 1) := by decide +kernel
theorem dL_bellAt_10 : decode cL_bellAt 10 = .ok (.goto 11, 3) := by decide +kernel
theorem dL_bellAt_13 : decode cL_bellAt 13 = .ok (.astore 4, 2) := by decide +kernel
theorem dL_bellAt_15 : decode cL_bellAt 15 = .ok (.iconst 1, 1) := by decide +kernel
theorem dL_bellAt_16 : decode cL_bellAt 16 = .ok (.ireturn, 1) := by decide +kernel
theorem dL_bellAt_17 : decode cL_bellAt 17 = .ok (.astore 4, 2) := by decide +kernel
theorem dL_bellAt_19 : decode cL_bellAt 19 = .ok (.iconst 2, 1) := by decide +kernel
theorem dL_bellAt_20 : decode cL_bellAt 20 = .ok (.ireturn, 1) := by decide +kernel
theorem dL_bellAt_21 : decode cL_bellAt 21 = .ok (.iconst 0, 1) := by decide +kernel
theorem dL_bellAt_22 : decode cL_bellAt 22 = .ok (.ireturn, 1) := by decide +kernel
theorem dL_setTune_0 : decode cL_setTune 0 = .ok (.aload_n 3, 1) := by decide +kernel
theorem dL_setTune_1 : decode cL_setTune 1 = .ok (.iconst 0, 1) := by decide +kernel
theorem dL_setTune_2 : decode cL_setTune 2 = .ok (.aload_n 0, 1) := by decide +kernel
theorem dL_setTune_3 : decode cL_setTune 3 = .ok (.iload_n 1, 1) := by decide +kernel
theorem dL_setTune_4 : decode cL_setTune 4 = .ok (.iload_n 2, 1) := by decide +kernel
theorem dL_setTune_5 : decode cL_setTune 5 = .ok (.invokevirtual 82, 3) := by decide +kernel
theorem dL_setTune_8 : decode cL_setTune 8 = .ok (.i2l, 1) := by decide +kernel
theorem dL_setTune_9 : decode cL_setTune 9 = .ok (.lastore, 1) := by decide +kernel
theorem dL_setTune_10 : decode cL_setTune 10 = .ok (.goto 11, 3) := by decide +kernel
theorem dL_setTune_13 : decode cL_setTune 13 = .ok (.astore 4, 2) := by decide +kernel
theorem dL_setTune_15 : decode cL_setTune 15 = .ok (.iconst 1, 1) := by decide +kernel
theorem dL_setTune_16 : decode cL_setTune 16 = .ok (.ireturn, 1) := by decide +kernel
theorem dL_setTune_17 : decode cL_setTune 17 = .ok (.astore 4, 2) := by decide +kernel
theorem dL_setTune_19 : decode cL_setTune 19 = .ok (.iconst 2, 1) := by decide +kernel
theorem dL_setTune_20 : decode cL_setTune 20 = .ok (.ireturn, 1) := by decide +kernel
theorem dL_setTune_21 : decode cL_setTune 21 = .ok (.iconst 0, 1) := by decide +kernel
theorem dL_setTune_22 : decode cL_setTune 22 = .ok (.ireturn, 1) := by decide +kernel
theorem dL_strokes_0 : decode cL_strokes 0 = .ok (.aload_n 2, 1) := by decide +kernel
theorem dL_strokes_1 : decode cL_strokes 1 = .ok (.iconst 0, 1) := by decide +kernel
theorem dL_strokes_2 : decode cL_strokes 2 = .ok (.aload_n 0, 1) := by decide +kernel
theorem dL_strokes_3 : decode cL_strokes 3 = .ok (.iload_n 1, 1) := by decide +kernel
theorem dL_strokes_4 : decode cL_strokes 4 = .ok (.invokevirtual 85, 3) := by decide +kernel
theorem dL_strokes_7 : decode cL_strokes 7 = .ok (.i2l, 1) := by decide +kernel
theorem dL_strokes_8 : decode cL_strokes 8 = .ok (.lastore, 1) := by decide +kernel
theorem dL_strokes_9 : decode cL_strokes 9 = .ok (.goto 6, 3) := by decide +kernel
theorem dL_strokes_12 : decode cL_strokes 12 = .ok (.astore_n 3, 1) := by decide +kernel
theorem dL_strokes_13 : decode cL_strokes 13 = .ok (.iconst 1, 1) := by decide +kernel
theorem dL_strokes_14 : decode cL_strokes 14 = .ok (.ireturn, 1) := by decide +kernel
theorem dL_strokes_15 : decode cL_strokes 15 = .ok (.iconst 0, 1) := by decide +kernel
theorem dL_strokes_16 : decode cL_strokes 16 = .ok (.ireturn, 1) := by decide +kernel
theorem dL_markAt_0 : decode cL_markAt 0 = .ok (.aload_n 2, 1) := by decide +kernel
theorem dL_markAt_1 : decode cL_markAt 1 = .ok (.iconst 0, 1) := by decide +kernel
theorem dL_markAt_2 : decode cL_markAt 2 = .ok (.aload_n 0, 1) := by decide +kernel
theorem dL_markAt_3 : decode cL_markAt 3 = .ok (.iload_n 1, 1) := by decide +kernel
theorem dL_markAt_4 : decode cL_markAt 4 = .ok (.invokevirtual 88, 3) := by decide +kernel
theorem dL_markAt_7 : decode cL_markAt 7 = .ok (.i2l, 1) := by decide +kernel
theorem dL_markAt_8 : decode cL_markAt 8 = .ok (.lastore, 1) := by decide +kernel
theorem dL_markAt_9 : decode cL_markAt 9 = .ok (.goto 6, 3) := by decide +kernel
theorem dL_markAt_12 : decode cL_markAt 12 = .ok (.astore_n 3, 1) := by decide +kernel
theorem dL_markAt_13 : decode cL_markAt 13 = .ok (.iconst 1, 1) := by decide +kernel
theorem dL_markAt_14 : decode cL_markAt 14 = .ok (.ireturn, 1) := by decide +kernel
theorem dL_markAt_15 : decode cL_markAt 15 = .ok (.iconst 0, 1) := by decide +kernel
theorem dL_markAt_16 : decode cL_markAt 16 = .ok (.ireturn, 1) := by decide +kernel
theorem dL_strokesAt_0 : decode cL_strokesAt 0 = .ok (.aload_n 2, 1) := by decide +kernel
theorem dL_strokesAt_1 : decode cL_strokesAt 1 = .ok (.iconst 0, 1) := by decide +kernel
theorem dL_strokesAt_2 : decode cL_strokesAt 2 = .ok (.aload_n 0, 1) := by decide +kernel
theorem dL_strokesAt_3 : decode cL_strokesAt 3 = .ok (.iload_n 1, 1) := by decide +kernel
theorem dL_strokesAt_4 : decode cL_strokesAt 4 = .ok (.invokevirtual 91, 3) := by decide +kernel
theorem dL_strokesAt_7 : decode cL_strokesAt 7 = .ok (.i2l, 1) := by decide +kernel
theorem dL_strokesAt_8 : decode cL_strokesAt 8 = .ok (.lastore, 1) := by decide +kernel
theorem dL_strokesAt_9 : decode cL_strokesAt 9 = .ok (.goto 6, 3) := by decide +kernel
theorem dL_strokesAt_12 : decode cL_strokesAt 12 = .ok (.astore_n 3, 1) := by decide +kernel
theorem dL_strokesAt_13 : decode cL_strokesAt 13 = .ok (.iconst 1, 1) := by decide +kernel
theorem dL_strokesAt_14 : decode cL_strokesAt 14 = .ok (.ireturn, 1) := by decide +kernel
theorem dL_strokesAt_15 : decode cL_strokesAt 15 = .ok (.iconst 0, 1) := by decide +kernel
theorem dL_strokesAt_16 : decode cL_strokesAt 16 = .ok (.ireturn, 1) := by decide +kernel
theorem dL_strokesAhead_0 : decode cL_strokesAhead 0 = .ok (.aload_n 2, 1) := by decide +kernel
theorem dL_strokesAhead_1 : decode cL_strokesAhead 1 = .ok (.iconst 0, 1) := by decide +kernel
theorem dL_strokesAhead_2 : decode cL_strokesAhead 2 = .ok (.aload_n 0, 1) := by decide +kernel
theorem dL_strokesAhead_3 : decode cL_strokesAhead 3 = .ok (.iload_n 1, 1) := by decide +kernel
theorem dL_strokesAhead_4 : decode cL_strokesAhead 4 = .ok (.invokevirtual 94, 3) := by decide +kernel
theorem dL_strokesAhead_7 : decode cL_strokesAhead 7 = .ok (.i2l, 1) := by decide +kernel
theorem dL_strokesAhead_8 : decode cL_strokesAhead 8 = .ok (.lastore, 1) := by decide +kernel
theorem dL_strokesAhead_9 : decode cL_strokesAhead 9 = .ok (.goto 6, 3) := by decide +kernel
theorem dL_strokesAhead_12 : decode cL_strokesAhead 12 = .ok (.astore_n 3, 1) := by decide +kernel
theorem dL_strokesAhead_13 : decode cL_strokesAhead 13 = .ok (.iconst 1, 1) := by decide +kernel
theorem dL_strokesAhead_14 : decode cL_strokesAhead 14 = .ok (.ireturn, 1) := by decide +kernel
theorem dL_strokesAhead_15 : decode cL_strokesAhead 15 = .ok (.iconst 0, 1) := by decide +kernel
theorem dL_strokesAhead_16 : decode cL_strokesAhead 16 = .ok (.ireturn, 1) := by decide +kernel
theorem dL_strokesByBeats_0 : decode cL_strokesByBeats 0 = .ok (.aload_n 2, 1) := by decide +kernel
theorem dL_strokesByBeats_1 : decode cL_strokesByBeats 1 = .ok (.iconst 0, 1) := by decide +kernel
theorem dL_strokesByBeats_2 : decode cL_strokesByBeats 2 = .ok (.aload_n 0, 1) := by decide +kernel
theorem dL_strokesByBeats_3 : decode cL_strokesByBeats 3 = .ok (.iload_n 1, 1) := by decide +kernel
theorem dL_strokesByBeats_4 : decode cL_strokesByBeats 4 = .ok (.invokevirtual 97, 3) := by decide +kernel
theorem dL_strokesByBeats_7 : decode cL_strokesByBeats 7 = .ok (.i2l, 1) := by decide +kernel
theorem dL_strokesByBeats_8 : decode cL_strokesByBeats 8 = .ok (.lastore, 1) := by decide +kernel
theorem dL_strokesByBeats_9 : decode cL_strokesByBeats 9 = .ok (.goto 6, 3) := by decide +kernel
theorem dL_strokesByBeats_12 : decode cL_strokesByBeats 12 = .ok (.astore_n 3, 1) := by decide +kernel
theorem dL_strokesByBeats_13 : decode cL_strokesByBeats 13 = .ok (.iconst 1, 1) := by decide +kernel
theorem dL_strokesByBeats_14 : decode cL_strokesByBeats 14 = .ok (.ireturn, 1) := by decide +kernel
theorem dL_strokesByBeats_15 : decode cL_strokesByBeats 15 = .ok (.iconst 0, 1) := by decide +kernel
theorem dL_strokesByBeats_16 : decode cL_strokesByBeats 16 = .ok (.ireturn, 1) := by decide +kernel
theorem dL_struckShare_0 : decode cL_struckShare 0 = .ok (.aload_n 1, 1) := by decide +kernel
theorem dL_struckShare_1 : decode cL_struckShare 1 = .ok (.iconst 0, 1) := by decide +kernel
theorem dL_struckShare_2 : decode cL_struckShare 2 = .ok (.aload_n 0, 1) := by decide +kernel
theorem dL_struckShare_3 : decode cL_struckShare 3 = .ok (.invokevirtual 100, 3) := by decide +kernel
theorem dL_struckShare_6 : decode cL_struckShare 6 = .ok (.f2d, 1) := by decide +kernel
theorem dL_struckShare_7 : decode cL_struckShare 7 = .ok (.dastore, 1) := by decide +kernel
theorem dL_struckShare_8 : decode cL_struckShare 8 = .ok (.goto 6, 3) := by decide +kernel
theorem dL_struckShare_11 : decode cL_struckShare 11 = .ok (.astore_n 2, 1) := by decide +kernel
theorem dL_struckShare_12 : decode cL_struckShare 12 = .ok (.iconst 1, 1) := by decide +kernel
theorem dL_struckShare_13 : decode cL_struckShare 13 = .ok (.ireturn, 1) := by decide +kernel
theorem dL_struckShare_14 : decode cL_struckShare 14 = .ok (.iconst 0, 1) := by decide +kernel
theorem dL_struckShare_15 : decode cL_struckShare 15 = .ok (.ireturn, 1) := by decide +kernel
