theorem dL_cell_0 : decode cL_cell 0 = .ok (.aload_n 0, 1) := by decide +kernel
theorem dL_cell_1 : decode cL_cell 1 = .ok (.arraylength, 1) := by decide +kernel
theorem dL_cell_2 : decode cL_cell 2 = .ok (.ifCond .ne 13, 3) := by decide +kernel
theorem dL_cell_5 : decode cL_cell 5 = .ok (.bipush 71, 2) := by decide +kernel
theorem dL_cell_7 : decode cL_cell 7 = .ok (.iload_n 1, 1) := by decide +kernel
theorem dL_cell_8 : decode cL_cell 8 = .ok (.imul, 1) := by decide +kernel
theorem dL_cell_9 : decode cL_cell 9 = .ok (.bipush 13, 2) := by decide +kernel
theorem dL_cell_11 : decode cL_cell 11 = .ok (.iadd, 1) := by decide +kernel
theorem dL_cell_12 : decode cL_cell 12 = .ok (.goto 12, 3) := by decide +kernel
theorem dL_cell_15 : decode cL_cell 15 = .ok (.aload_n 0, 1) := by decide +kernel
theorem dL_cell_16 : decode cL_cell 16 = .ok (.iload_n 1, 1) := by decide +kernel
theorem dL_cell_17 : decode cL_cell 17 = .ok (.ldc 7, 2) := by decide +kernel
theorem dL_cell_19 : decode cL_cell 19 = .ok (.iand, 1) := by decide +kernel
theorem dL_cell_20 : decode cL_cell 20 = .ok (.aload_n 0, 1) := by decide +kernel
theorem dL_cell_21 : decode cL_cell 21 = .ok (.arraylength, 1) := by decide +kernel
theorem dL_cell_22 : decode cL_cell 22 = .ok (.irem, 1) := by decide +kernel
theorem dL_cell_23 : decode cL_cell 23 = .ok (.iaload, 1) := by decide +kernel
theorem dL_cell_24 : decode cL_cell 24 = .ok (.ireturn, 1) := by decide +kernel
theorem dL_addWheel_0 : decode cL_addWheel 0 = .ok (.aload_n 0, 1) := by decide +kernel
theorem dL_addWheel_1 : decode cL_addWheel 1 = .ok (.iload_n 1, 1) := by decide +kernel
theorem dL_addWheel_2 : decode cL_addWheel 2 = .ok (.iload_n 2, 1) := by decide +kernel
theorem dL_addWheel_3 : decode cL_addWheel 3 = .ok (.invokevirtual 8, 3) := by decide +kernel
theorem dL_addWheel_6 : decode cL_addWheel 6 = .ok (.ireturn, 1) := by decide +kernel
theorem dL_addWheel_7 : decode cL_addWheel 7 = .ok (.astore_n 3, 1) := by decide +kernel
theorem dL_addWheel_8 : decode cL_addWheel 8 = .ok (.iconst (-1), 1) := by decide +kernel
theorem dL_addWheel_9 : decode cL_addWheel 9 = .ok (.ireturn, 1) := by decide +kernel
theorem dL_addWheel_10 : decode cL_addWheel 10 = .ok (.astore_n 3, 1) := by decide +kernel
theorem dL_addWheel_11 : decode cL_addWheel 11 = .ok (.bipush (-2), 2) := by decide +kernel
theorem dL_addWheel_13 : decode cL_addWheel 13 = .ok (.ireturn, 1) := by decide +kernel
theorem dL_moved_0 : decode cL_moved 0 = .ok (.aload_n 0, 1) := by decide +kernel
theorem dL_moved_1 : decode cL_moved 1 = .ok (.iload_n 1, 1) := by decide +kernel
theorem dL_moved_2 : decode cL_moved 2 = .ok (.invokevirtual 18, 3) := by decide +kernel
theorem dL_moved_5 : decode cL_moved 5 = .ok (.ireturn, 1) := by decide +kernel
theorem dL_moved_6 : decode cL_moved 6 = .ok (.astore_n 2, 1) := by decide +kernel
theorem dL_moved_7 : decode cL_moved 7 = .ok (.iconst (-1), 1) := by decide +kernel
theorem dL_moved_8 : decode cL_moved 8 = .ok (.ireturn, 1) := by decide +kernel
theorem dL_wholeTurns_0 : decode cL_wholeTurns 0 = .ok (.aload_n 0, 1) := by decide +kernel
theorem dL_wholeTurns_1 : decode cL_wholeTurns 1 = .ok (.iload_n 1, 1) := by decide +kernel
theorem dL_wholeTurns_2 : decode cL_wholeTurns 2 = .ok (.invokevirtual 24, 3) := by decide +kernel
theorem dL_wholeTurns_5 : decode cL_wholeTurns 5 = .ok (.ireturn, 1) := by decide +kernel
theorem dL_wholeTurns_6 : decode cL_wholeTurns 6 = .ok (.astore_n 2, 1) := by decide +kernel
theorem dL_wholeTurns_7 : decode cL_wholeTurns 7 = .ok (.iconst (-1), 1) := by decide +kernel
theorem dL_wholeTurns_8 : decode cL_wholeTurns 8 = .ok (.ireturn, 1) := by decide +kernel
theorem dL_beatsForTurn_0 : decode cL_beatsForTurn 0 = .ok (.aload_n 0, 1) := by decide +kernel
theorem dL_beatsForTurn_1 : decode cL_beatsForTurn 1 = .ok (.iload_n 1, 1) := by decide +kernel
theorem dL_beatsForTurn_2 : decode cL_beatsForTurn 2 = .ok (.invokevirtual 27, 3) := by decide +kernel
theorem dL_beatsForTurn_5 : decode cL_beatsForTurn 5 = .ok (.dreturn, 1) := by decide +kernel
theorem dL_beatsForTurn_6 : decode cL_beatsForTurn 6 = .ok (.astore_n 2, 1) := by decide +kernel
theorem dL_beatsForTurn_7 : decode cL_beatsForTurn 7 = .ok (.ldc2_w 31, 3) := by decide +kernel
theorem dL_beatsForTurn_10 : decode cL_beatsForTurn 10 = .ok (.dreturn, 1) := by decide +kernel
theorem dL_movedAhead_0 : decode cL_movedAhead 0 = .ok (.aload_n 0, 1) := by decide +kernel
theorem dL_movedAhead_1 : decode cL_movedAhead 1 = .ok (.iload_n 1, 1) := by decide +kernel
theorem dL_movedAhead_2 : decode cL_movedAhead 2 = .ok (.iload_n 2, 1) := by decide +kernel
theorem dL_movedAhead_3 : decode cL_movedAhead 3 = .ok (.invokevirtual 33, 3) := by decide +kernel
theorem dL_movedAhead_6 : decode cL_movedAhead 6 = .ok (.ireturn, 1) := by decide +kernel
theorem dL_movedAhead_7 : decode cL_movedAhead 7 = .ok (.astore_n 3, 1) := by decide +kernel
theorem dL_movedAhead_8 : decode cL_movedAhead 8 = .ok (.iconst (-1), 1) := by decide +kernel
theorem dL_movedAhead_9 : decode cL_movedAhead 9 = .ok (.ireturn, 1) := by decide +kernel
theorem dL_movedAhead_10 : decode cL_movedAhead 10 = .ok (.astore_n 3, 1) := by decide +kernel
theorem dL_movedAhead_11 : decode cL_movedAhead 11 = .ok (.bipush (-2), 2) := by decide +kernel
theorem dL_movedAhead_13 : decode cL_movedAhead 13 = .ok (.ireturn, 1) := by decide +kernel
theorem dL_movedByBeats_0 : decode cL_movedByBeats 0 = .ok (.aload_n 0, 1) := by decide +kernel
theorem dL_movedByBeats_1 : decode cL_movedByBeats 1 = .ok (.iload_n 1, 1) := by decide +kernel
theorem dL_movedByBeats_2 : decode cL_movedByBeats 2 = .ok (.iload_n 2, 1) := by decide +kernel
theorem dL_movedByBeats_3 : decode cL_movedByBeats 3 = .ok (.invokevirtual 36, 3) := by decide +kernel
theorem dL_movedByBeats_6 : decode cL_movedByBeats 6 = .ok (.ireturn, 1) := by decide +kernel
theorem dL_movedByBeats_7 : decode cL_movedByBeats 7 = .ok (.astore_n 3, 1) := by decide +kernel
theorem dL_movedByBeats_8 : decode cL_movedByBeats 8 = .ok (.iconst (-1), 1) := by decide +kernel
theorem dL_movedByBeats_9 : decode cL_movedByBeats 9 = .ok (.ireturn, 1) := by decide +kernel
theorem dL_movedByBeats_10 : decode cL_movedByBeats 10 = .ok (.astore_n 3, 1) := by decide +kernel
theorem dL_movedByBeats_11 : decode cL_movedByBeats 11 = .ok (.bipush (-2), 2) := by decide +kernel
theorem dL_movedByBeats_13 : decode cL_movedByBeats 13 = .ok (.ireturn, 1) := by decide +kernel
theorem dL_setBeat_0 : decode cL_setBeat 0 = .ok (.aload_n 0, 1) := by decide +kernel
theorem dL_setBeat_1 : decode cL_setBeat 1 = .ok (.iload_n 1, 1) := by decide +kernel
theorem dL_setBeat_2 : decode cL_setBeat 2 = .ok (.iload_n 2, 1) := by decide +kernel
theorem dL_setBeat_3 : decode cL_setBeat 3 = .ok (.invokevirtual 39, 3) := by decide +kernel
theorem dL_setBeat_6 : decode cL_setBeat 6 = .ok (.ireturn, 1) := by decide +kernel
theorem dL_setBeat_7 : decode cL_setBeat 7 = .ok (.astore_n 3, 1) := by decide +kernel
theorem dL_setBeat_8 : decode cL_setBeat 8 = .ok (.iconst (-1), 1) := by decide +kernel
theorem dL_setBeat_9 : decode cL_setBeat 9 = .ok (.ireturn, 1) := by decide +kernel
theorem dL_pass_0 : decode cL_pass 0 = .ok (.aload_n 0, 1) := by decide +kernel
theorem dL_pass_1 : decode cL_pass 1 = .ok (.iload_n 1, 1) := by decide +kernel
theorem dL_pass_2 : decode cL_pass 2 = .ok (.invokevirtual 42, 3) := by decide +kernel
theorem dL_pass_5 : decode cL_pass 5 = .ok (.ireturn, 1) := by decide +kernel
theorem dL_pass_6 : decode cL_pass 6 = .ok (.astore_n 2, 1) := by decide +kernel
theorem dL_pass_7 : decode cL_pass 7 = .ok (.iconst (-1), 1) := by decide +kernel
theorem dL_pass_8 : decode cL_pass 8 = .ok (.ireturn, 1) := by decide +kernel
theorem dL_owe_0 : decode cL_owe 0 = .ok (.aload_n 0, 1) := by decide +kernel
theorem dL_owe_1 : decode cL_owe 1 = .ok (.iload_n 1, 1) := by decide +kernel
theorem dL_owe_2 : decode cL_owe 2 = .ok (.invokevirtual 45, 3) := by decide +kernel
theorem dL_owe_5 : decode cL_owe 5 = .ok (.ireturn, 1) := by decide +kernel
theorem dL_owe_6 : decode cL_owe 6 = .ok (.astore_n 2, 1) := by decide +kernel
theorem dL_owe_7 : decode cL_owe 7 = .ok (.iconst (-1), 1) := by decide +kernel
theorem dL_owe_8 : decode cL_owe 8 = .ok (.ireturn, 1) := by decide +kernel
theorem dL_setBound_0 : decode cL_setBound 0 = .ok (.aload_n 0, 1) := by decide +kernel
theorem dL_setBound_1 : decode cL_setBound 1 = .ok (.iload_n 1, 1) := by decide +kernel
theorem dL_setBound_2 : decode cL_setBound 2 = .ok (.invokevirtual 48, 3) := by decide +kernel
theorem dL_setBound_5 : decode cL_setBound 5 = .ok (.ireturn, 1) := by decide +kernel
theorem dL_setBound_6 : decode cL_setBound 6 = .ok (.astore_n 2, 1) := by decide +kernel
theorem dL_setBound_7 : decode cL_setBound 7 = .ok (.iconst (-1), 1) := by decide +kernel
theorem dL_setBound_8 : decode cL_setBound 8 = .ok (.ireturn, 1) := by decide +kernel
theorem dL_setDate_0 : decode cL_setDate 0 = .ok (.aload_n 0, 1) := by decide +kernel
theorem dL_setDate_1 : decode cL_setDate 1 = .ok (.iload_n 1, 1) := by decide +kernel
theorem dL_setDate_2 : decode cL_setDate 2 = .ok (.iload_n 2, 1) := by decide +kernel
theorem dL_setDate_3 : decode cL_setDate 3 = .ok (.iload_n 3, 1) := by decide +kernel
theorem dL_setDate_4 : decode cL_setDate 4 = .ok (.invokevirtual 51, 3) := by decide +kernel
theorem dL_setDate_7 : decode cL_setDate 7 = .ok (.ireturn, 1) := by decide +kernel
theorem dL_setDate_8 : decode cL_setDate 8 = .ok (.astore 4, 2) := by decide +kernel
theorem dL_setDate_10 : decode cL_setDate 10 = .ok (.iconst (-1), 1) := by decide +kernel
theorem dL_setDate_11 : decode cL_setDate 11 = .ok (.ireturn, 1) := by decide +kernel
theorem dL_isLeap_0 : decode cL_isLeap 0 = .ok (.aload_n 0, 1) := by decide +kernel
theorem dL_isLeap_1 : decode cL_isLeap 1 = .ok (.iload_n 1, 1) := by decide +kernel
theorem dL_isLeap_2 : decode cL_isLeap 2 = .ok (.invokevirtual 55, 3) := by decide +kernel
theorem dL_isLeap_5 : decode cL_isLeap 5 = .ok (.ifCond .eq 7, 3) := by decide +kernel
theorem dL_isLeap_8 : decode cL_isLeap 8 = .ok (.iconst 1, 1) := by decide +kernel
theorem dL_isLeap_9 : decode cL_isLeap 9 = .ok (.goto 4, 3) := by decide +kernel
theorem dL_isLeap_12 : decode cL_isLeap 12 = .ok (.iconst 0, 1) := by decide +kernel
theorem dL_isLeap_13 : decode cL_isLeap 13 = .ok (.ireturn, 1) := by decide +kernel
theorem dL_isLeap_14 : decode cL_isLeap 14 = .ok (.astore_n 2, 1) := by decide +kernel
theorem dL_isLeap_15 : decode cL_isLeap 15 = .ok (.iconst (-1), 1) := by decide +kernel
theorem dL_isLeap_16 : decode cL_isLeap 16 = .ok (.ireturn, 1) := by decide +kernel
theorem dL_numberOf_0 : decode cL_numberOf 0 = .ok (.aload_n 0, 1) := by decide +kernel
theorem dL_numberOf_1 : decode cL_numberOf 1 = .ok (.iload_n 1, 1) := by decide +kernel
theorem dL_numberOf_2 : decode cL_numberOf 2 = .ok (.iload_n 2, 1) := by decide +kernel
theorem dL_numberOf_3 : decode cL_numberOf 3 = .ok (.iload_n 3, 1) := by decide +kernel
theorem dL_numberOf_4 : decode cL_numberOf 4 = .ok (.invokevirtual 59, 3) := by decide +kernel
theorem dL_numberOf_7 : decode cL_numberOf 7 = .ok (.lreturn, 1) := by decide +kernel
theorem dL_numberOf_8 : decode cL_numberOf 8 = .ok (.astore 4, 2) := by decide +kernel
theorem dL_numberOf_10 : decode cL_numberOf 10 = .ok (.ldc2_w 63, 3) := by decide +kernel
theorem dL_numberOf_13 : decode cL_numberOf 13 = .ok (.lreturn, 1) := by decide +kernel
theorem dL_numberByCounting_0 : decode cL_numberByCounting 0 = .ok (.aload_n 0, 1) := by decide +kernel
theorem dL_numberByCounting_1 : decode cL_numberByCounting 1 = .ok (.iload_n 1, 1) := by decide +kernel
theorem dL_numberByCounting_2 : decode cL_numberByCounting 2 = .ok (.iload_n 2, 1) := by decide +kernel
theorem dL_numberByCounting_3 : decode cL_numberByCounting 3 = .ok (.iload_n 3, 1) := by decide +kernel
theorem dL_numberByCounting_4 : decode cL_numberByCounting 4 = .ok (.invokevirtual 65, 3) := by decide +kernel
theorem dL_numberByCounting_7 : decode cL_numberByCounting 7 = .ok (.lreturn, 1) := by decide +kernel
theorem dL_numberByCounting_8 : decode cL_numberByCounting 8 = .ok (.astore 4, 2) := by decide +kernel
theorem dL_numberByCounting_10 : decode cL_numberByCounting 10 = .ok (.ldc2_w 63, 3) := by decide +kernel
theorem dL_numberByCounting_13 : decode cL_numberByCounting 13 = .ok (.lreturn, 1) := by decide +kernel
theorem dL_setSilence_0 : decode cL_setSilence 0 = .ok (.aload_n 0, 1) := by decide +kernel
theorem dL_setSilence_1 : decode cL_setSilence 1 = .ok (.iload_n 1, 1) := by decide +kernel
theorem dL_setSilence_2 : decode cL_setSilence 2 = .ok (.iload_n 2, 1) := by decide +kernel
theorem dL_setSilence_3 : decode cL_setSilence 3 = .ok (.invokevirtual 68, 3) := by decide +kernel
theorem dL_setSilence_6 : decode cL_setSilence 6 = .ok (.ireturn, 1) := by decide +kernel
theorem dL_setSilence_7 : decode cL_setSilence 7 = .ok (.astore_n 3, 1) := by decide +kernel
theorem dL_setSilence_8 : decode cL_setSilence 8 = .ok (.iconst (-1), 1) := by decide +kernel
theorem dL_setSilence_9 : decode cL_setSilence 9 = .ok (.ireturn, 1) := by decide +kernel
theorem dL_addDrum_0 : decode cL_addDrum 0 = .ok (.aload_n 0, 1) := by decide +kernel
theorem dL_addDrum_1 : decode cL_addDrum 1 = .ok (.invokevirtual 71, 3) := by decide +kernel
theorem dL_addDrum_4 : decode cL_addDrum 4 = .ok (.ireturn, 1) := by decide +kernel
theorem dL_addDrum_5 : decode cL_addDrum 5 = .ok (.astore_n 1, 1) := by decide +kernel
theorem dL_addDrum_6 : decode cL_addDrum 6 = .ok (.iconst (-1), 1) := by decide +kernel
theorem dL_addDrum_7 : decode cL_addDrum 7 = .ok (.ireturn, 1) := by decide +kernel
theorem dL_setPin_0 : decode cL_setPin 0 = .ok (.aload_n 0, 1) := by decide +kernel
theorem dL_setPin_1 : decode cL_setPin 1 = .ok (.iload_n 1, 1) := by decide +kernel
theorem dL_setPin_2 : decode cL_setPin 2 = .ok (.iload_n 2, 1) := by decide +kernel
theorem dL_setPin_3 : decode cL_setPin 3 = .ok (.iload_n 3, 1) := by decide +kernel
theorem dL_setPin_4 : decode cL_setPin 4 = .ok (.iload 4, 2) := by decide +kernel
theorem dL_setPin_6 : decode cL_setPin 6 = .ok (.invokevirtual 75, 3) := by decide +kernel
theorem dL_setPin_9 : decode cL_setPin 9 = .ok (.ifCond .eq 7, 3) := by decide +kernel
theorem dL_setPin_12 : decode cL_setPin 12 = .ok (.iconst 1, 1) := by decide +kernel
theorem dL_setPin_13 : decode cL_setPin 13 = .ok (.goto 4, 3) := by decide +kernel
theorem dL_setPin_16 : decode cL_setPin 16 = .ok (.iconst 0, 1) := by decide +kernel
theorem dL_setPin_17 : decode cL_setPin 17 = .ok (.ireturn, 1) := by decide +kernel
theorem dL_setPin_18 : decode cL_setPin 18 = .ok (.astore 5, 2) := by decide +kernel
theorem dL_setPin_20 : decode cL_setPin 20 = .ok (.iconst (-1), 1) := by decide +kernel
theorem dL_setPin_21 : decode cL_setPin 21 = .ok (.ireturn, 1) := by decide +kernel
theorem dL_setPin_22 : decode cL_setPin 22 = .ok (.astore 5, 2) := by decide +kernel
theorem dL_setPin_24 : decode cL_setPin 24 = .ok (.bipush (-2), 2) := by decide +kernel
theorem dL_setPin_26 : decode cL_setPin 26 = .ok (.ireturn, 1) := by decide +kernel
theorem dL_pins_0 : decode cL_pins 0 = .ok (.aload_n 0, 1) := by decide +kernel
theorem dL_pins_1 : decode cL_pins 1 = .ok (.iload_n 1, 1) := by decide +kernel
theorem dL_pins_2 : decode cL_pins 2 = .ok (.invokevirtual 79, 3) := by decide +kernel
theorem dL_pins_5 : decode cL_pins 5 = .ok (.ireturn, 1) := by decide +kernel
theorem dL_pins_6 : decode cL_pins 6 = .ok (.astore_n 2, 1) := by decide +kernel
theorem dL_pins_7 : decode cL_pins 7 = .ok (.iconst (-1), 1) := by decide +kernel
theorem dL_pins_8 : decode cL_pins 8 = .ok (.ireturn, 1) := by decide +kernel
theorem dL_bellAt_0 : decode cL_bellAt 0 = .ok (.aload_n 0, 1) := by decide +kernel
theorem dL_bellAt_1 : decode cL_bellAt 1 = .ok (.iload_n 1, 1) := by decide +kernel
theorem dL_bellAt_2 : decode cL_bellAt 2 = .ok (.iload_n 2, 1) := by decide +kernel
theorem dL_bellAt_3 : decode cL_bellAt 3 = .ok (.invokevirtual 82, 3) := by decide +kernel
theorem dL_bellAt_6 : decode cL_bellAt 6 = .ok (.ireturn, 1) := by decide +kernel
theorem dL_bellAt_7 : decode cL_bellAt 7 = .ok (.astore_n 3, 1) := by decide +kernel
theorem dL_bellAt_8 : decode cL_bellAt 8 = .ok (.iconst (-1), 1) := by decide +kernel
theorem dL_bellAt_9 : decode cL_bellAt 9 = .ok (.ireturn, 1) := by decide +kernel
theorem dL_bellAt_10 : decode cL_bellAt 10 = .ok (.astore_n 3, 1) := by decide +kernel
theorem dL_bellAt_11 : decode cL_bellAt 11 = .ok (.bipush (-2), 2) := by decide +kernel
theorem dL_bellAt_13 : decode cL_bellAt 13 = .ok (.ireturn, 1) := by decide +kernel
theorem dL_setTune_0 : decode cL_setTune 0 = .ok (.aload_n 0, 1) := by decide +kernel
theorem dL_setTune_1 : decode cL_setTune 1 = .ok (.iload_n 1, 1) := by decide +kernel
theorem dL_setTune_2 : decode cL_setTune 2 = .ok (.iload_n 2, 1) := by decide +kernel
theorem dL_setTune_3 : decode cL_setTune 3 = .ok (.invokevirtual 87, 3) := by decide +kernel
theorem dL_setTune_6 : decode cL_setTune 6 = .ok (.ireturn, 1) := by decide +kernel
theorem dL_setTune_7 : decode cL_setTune 7 = .ok (.astore_n 3, 1) := by decide +kernel
theorem dL_setTune_8 : decode cL_setTune 8 = .ok (.iconst (-1), 1) := by decide +kernel
theorem dL_setTune_9 : decode cL_setTune 9 = .ok (.ireturn, 1) := by decide +kernel
theorem dL_setTune_10 : decode cL_setTune 10 = .ok (.astore_n 3, 1) := by decide +kernel
theorem dL_setTune_11 : decode cL_setTune 11 = .ok (.bipush (-2), 2) := by decide +kernel
theorem dL_setTune_13 : decode cL_setTune 13 = .ok (.ireturn, 1) := by decide +kernel
theorem dL_strokes_0 : decode cL_strokes 0 = .ok (.aload_n 0, 1) := by decide +kernel
theorem dL_strokes_1 : decode cL_strokes 1 = .ok (.iload_n 1, 1) := by decide +kernel
theorem dL_strokes_2 : decode cL_strokes 2 = .ok (.invokevirtual 90, 3) := by decide +kernel
theorem dL_strokes_5 : decode cL_strokes 5 = .ok (.ireturn, 1) := by decide +kernel
theorem dL_strokes_6 : decode cL_strokes 6 = .ok (.astore_n 2, 1) := by decide +kernel
theorem dL_strokes_7 : decode cL_strokes 7 = .ok (.iconst (-1), 1) := by decide +kernel
theorem dL_strokes_8 : decode cL_strokes 8 = .ok (.ireturn, 1) := by decide +kernel
theorem dL_markAt_0 : decode cL_markAt 0 = .ok (.aload_n 0, 1) := by decide +kernel
theorem dL_markAt_1 : decode cL_markAt 1 = .ok (.iload_n 1, 1) := by decide +kernel
theorem dL_markAt_2 : decode cL_markAt 2 = .ok (.invokevirtual 93, 3) := by decide +kernel
theorem dL_markAt_5 : decode cL_markAt 5 = .ok (.ireturn, 1) := by decide +kernel
theorem dL_markAt_6 : decode cL_markAt 6 = .ok (.astore_n 2, 1) := by decide +kernel
theorem dL_markAt_7 : decode cL_markAt 7 = .ok (.iconst (-1), 1) := by decide +kernel
theorem dL_markAt_8 : decode cL_markAt 8 = .ok (.ireturn, 1) := by decide +kernel
theorem dL_strokesAt_0 : decode cL_strokesAt 0 = .ok (.aload_n 0, 1) := by decide +kernel
theorem dL_strokesAt_1 : decode cL_strokesAt 1 = .ok (.iload_n 1, 1) := by decide +kernel
theorem dL_strokesAt_2 : decode cL_strokesAt 2 = .ok (.invokevirtual 96, 3) := by decide +kernel
theorem dL_strokesAt_5 : decode cL_strokesAt 5 = .ok (.ireturn, 1) := by decide +kernel
theorem dL_strokesAt_6 : decode cL_strokesAt 6 = .ok (.astore_n 2, 1) := by decide +kernel
theorem dL_strokesAt_7 : decode cL_strokesAt 7 = .ok (.iconst (-1), 1) := by decide +kernel
theorem dL_strokesAt_8 : decode cL_strokesAt 8 = .ok (.ireturn, 1) := by decide +kernel
theorem dL_strokesAhead_0 : decode cL_strokesAhead 0 = .ok (.aload_n 0, 1) := by decide +kernel
theorem dL_strokesAhead_1 : decode cL_strokesAhead 1 = .ok (.iload_n 1, 1) := by decide +kernel
theorem dL_strokesAhead_2 : decode cL_strokesAhead 2 = .ok (.invokevirtual 99, 3) := by decide +kernel
theorem dL_strokesAhead_5 : decode cL_strokesAhead 5 = .ok (.ireturn, 1) := by decide +kernel
theorem dL_strokesAhead_6 : decode cL_strokesAhead 6 = .ok (.astore_n 2, 1) := by decide +kernel
theorem dL_strokesAhead_7 : decode cL_strokesAhead 7 = .ok (.iconst (-1), 1) := by decide +kernel
theorem dL_strokesAhead_8 : decode cL_strokesAhead 8 = .ok (.ireturn, 1) := by decide +kernel
theorem dL_strokesByBeats_0 : decode cL_strokesByBeats 0 = .ok (.aload_n 0, 1) := by decide +kernel
theorem dL_strokesByBeats_1 : decode cL_strokesByBeats 1 = .ok (.iload_n 1, 1) := by decide +kernel
theorem dL_strokesByBeats_2 : decode cL_strokesByBeats 2 = .ok (.invokevirtual 102, 3) := by decide +kernel
theorem dL_strokesByBeats_5 : decode cL_strokesByBeats 5 = .ok (.ireturn, 1) := by decide +kernel
theorem dL_strokesByBeats_6 : decode cL_strokesByBeats 6 = .ok (.astore_n 2, 1) := by decide +kernel
theorem dL_strokesByBeats_7 : decode cL_strokesByBeats 7 = .ok (.iconst (-1), 1) := by decide +kernel
theorem dL_strokesByBeats_8 : decode cL_strokesByBeats 8 = .ok (.ireturn, 1) := by decide +kernel
theorem dL_struckShare_0 : decode cL_struckShare 0 = .ok (.aload_n 0, 1) := by decide +kernel
theorem dL_struckShare_1 : decode cL_struckShare 1 = .ok (.invokevirtual 105, 3) := by decide +kernel
theorem dL_struckShare_4 : decode cL_struckShare 4 = .ok (.freturn, 1) := by decide +kernel
theorem dL_struckShare_5 : decode cL_struckShare 5 = .ok (.astore_n 1, 1) := by decide +kernel
theorem dL_struckShare_6 : decode cL_struckShare 6 = .ok (.ldc 111, 2) := by decide +kernel
theorem dL_struckShare_8 : decode cL_struckShare 8 = .ok (.freturn, 1) := by decide +kernel
theorem dL_acts_0 : decode cL_acts 0 = .ok (.iload_n 1, 1) := by decide +kernel
theorem dL_acts_1 : decode cL_acts 1 = .ok (.bipush 20, 2) := by decide +kernel
theorem dL_acts_3 : decode cL_acts 3 = .ok (.irem, 1) := by decide +kernel
theorem dL_acts_4 : decode cL_acts 4 = .ok (.tableswitch 469 0 15 #[80, 80, 116, 116, 163, 163, 163, 234, 259, 306, 337, 363, 368, 368, 368, 419], 80) := by decide +kernel
theorem dL_acts_84 : decode cL_acts 84 = .ok (.aload_n 0, 1) := by decide +kernel
theorem dL_acts_85 : decode cL_acts 85 = .ok (.aload_n 2, 1) := by decide +kernel
theorem dL_acts_86 : decode cL_acts 86 = .ok (.bipush 30, 2) := by decide +kernel
theorem dL_acts_88 : decode cL_acts 88 = .ok (.invokevirtual 112, 3) := by decide +kernel
theorem dL_acts_91 : decode cL_acts 91 = .ok (.ifCond .ne 7, 3) := by decide +kernel
theorem dL_acts_94 : decode cL_acts 94 = .ok (.iconst 5, 1) := by decide +kernel
theorem dL_acts_95 : decode cL_acts 95 = .ok (.goto 12, 3) := by decide +kernel
theorem dL_acts_98 : decode cL_acts 98 = .ok (.bipush 6, 2) := by decide +kernel
theorem dL_acts_100 : decode cL_acts 100 = .ok (.aload_n 2, 1) := by decide +kernel
theorem dL_acts_101 : decode cL_acts 101 = .ok (.bipush 60, 2) := by decide +kernel
theorem dL_acts_103 : decode cL_acts 103 = .ok (.invokevirtual 112, 3) := by decide +kernel
theorem dL_acts_106 : decode cL_acts 106 = .ok (.iadd, 1) := by decide +kernel
theorem dL_acts_107 : decode cL_acts 107 = .ok (.bipush 6, 2) := by decide +kernel
theorem dL_acts_109 : decode cL_acts 109 = .ok (.aload_n 2, 1) := by decide +kernel
theorem dL_acts_110 : decode cL_acts 110 = .ok (.bipush 19, 2) := by decide +kernel
theorem dL_acts_112 : decode cL_acts 112 = .ok (.invokevirtual 112, 3) := by decide +kernel
theorem dL_acts_115 : decode cL_acts 115 = .ok (.iadd, 1) := by decide +kernel
theorem dL_acts_116 : decode cL_acts 116 = .ok (.invokestatic 117, 3) := by decide +kernel
theorem dL_acts_119 : decode cL_acts 119 = .ok (.ireturn, 1) := by decide +kernel
theorem dL_acts_120 : decode cL_acts 120 = .ok (.aload_n 0, 1) := by decide +kernel
theorem dL_acts_121 : decode cL_acts 121 = .ok (.aload_n 2, 1) := by decide +kernel
theorem dL_acts_122 : decode cL_acts 122 = .ok (.bipush 30, 2) := by decide +kernel
theorem dL_acts_124 : decode cL_acts 124 = .ok (.invokevirtual 112, 3) := by decide +kernel
theorem dL_acts_127 : decode cL_acts 127 = .ok (.ifCond .ne 8, 3) := by decide +kernel
theorem dL_acts_130 : decode cL_acts 130 = .ok (.bipush 21, 2) := by decide +kernel
theorem dL_acts_132 : decode cL_acts 132 = .ok (.goto 11, 3) := by decide +kernel
theorem dL_acts_135 : decode cL_acts 135 = .ok (.iconst 1, 1) := by decide +kernel
theorem dL_acts_136 : decode cL_acts 136 = .ok (.aload_n 2, 1) := by decide +kernel
theorem dL_acts_137 : decode cL_acts 137 = .ok (.bipush 20, 2) := by decide +kernel
theorem dL_acts_139 : decode cL_acts 139 = .ok (.invokevirtual 112, 3) := by decide +kernel
theorem dL_acts_142 : decode cL_acts 142 = .ok (.iadd, 1) := by decide +kernel
theorem dL_acts_143 : decode cL_acts 143 = .ok (.iconst 1, 1) := by decide +kernel
theorem dL_acts_144 : decode cL_acts 144 = .ok (.aload_n 2, 1) := by decide +kernel
theorem dL_acts_145 : decode cL_acts 145 = .ok (.aload_n 2, 1) := by decide +kernel
theorem dL_acts_146 : decode cL_acts 146 = .ok (.iconst 2, 1) := by decide +kernel
theorem dL_acts_147 : decode cL_acts 147 = .ok (.invokevirtual 112, 3) := by decide +kernel
theorem dL_acts_150 : decode cL_acts 150 = .ok (.ifCond .ne 7, 3) := by decide +kernel
theorem dL_acts_153 : decode cL_acts 153 = .ok (.iconst 1, 1) := by decide +kernel
theorem dL_acts_154 : decode cL_acts 154 = .ok (.goto 5, 3) := by decide +kernel
theorem dL_acts_157 : decode cL_acts 157 = .ok (.bipush 20, 2) := by decide +kernel
theorem dL_acts_159 : decode cL_acts 159 = .ok (.invokevirtual 112, 3) := by decide +kernel
theorem dL_acts_162 : decode cL_acts 162 = .ok (.iadd, 1) := by decide +kernel
theorem dL_acts_163 : decode cL_acts 163 = .ok (.invokestatic 122, 3) := by decide +kernel
theorem dL_acts_166 : decode cL_acts 166 = .ok (.ireturn, 1) := by decide +kernel
theorem dL_acts_167 : decode cL_acts 167 = .ok (.aload_n 0, 1) := by decide +kernel
theorem dL_acts_168 : decode cL_acts 168 = .ok (.iconst 0, 1) := by decide +kernel
theorem dL_acts_169 : decode cL_acts 169 = .ok (.invokestatic 124, 3) := by decide +kernel
theorem dL_acts_172 : decode cL_acts 172 = .ok (.istore_n 3, 1) := by decide +kernel
theorem dL_acts_173 : decode cL_acts 173 = .ok (.aload_n 2, 1) := by decide +kernel
theorem dL_acts_174 : decode cL_acts 174 = .ok (.bipush 10, 2) := by decide +kernel
theorem dL_acts_176 : decode cL_acts 176 = .ok (.invokevirtual 112, 3) := by decide +kernel
theorem dL_acts_179 : decode cL_acts 179 = .ok (.ifCond .ne 9, 3) := by decide +kernel
theorem dL_acts_182 : decode cL_acts 182 = .ok (.sipush 601, 3) := by decide +kernel
theorem dL_acts_185 : decode cL_acts 185 = .ok (.goto 14, 3) := by decide +kernel
theorem dL_acts_188 : decode cL_acts 188 = .ok (.aload_n 2, 1) := by decide +kernel
theorem dL_acts_189 : decode cL_acts 189 = .ok (.sipush 400, 3) := by decide +kernel
theorem dL_acts_192 : decode cL_acts 192 = .ok (.invokevirtual 112, 3) := by decide +kernel
theorem dL_acts_195 : decode cL_acts 195 = .ok (.sipush 200, 3) := by decide +kernel
theorem dL_acts_198 : decode cL_acts 198 = .ok (.isub, 1) := by decide +kernel
theorem dL_acts_199 : decode cL_acts 199 = .ok (.istore 4, 2) := by decide +kernel
theorem dL_acts_201 : decode cL_acts 201 = .ok (.aload_n 0, 1) := by decide +kernel
theorem dL_acts_202 : decode cL_acts 202 = .ok (.iload 4, 2) := by decide +kernel
theorem dL_acts_204 : decode cL_acts 204 = .ok (.invokestatic 124, 3) := by decide +kernel
theorem dL_acts_207 : decode cL_acts 207 = .ok (.iconst (-1), 1) := by decide +kernel
theorem dL_acts_208 : decode cL_acts 208 = .ok (.if_icmp .ne 28, 3) := by decide +kernel
theorem dL_acts_211 : decode cL_acts 211 = .ok (.iload 4, 2) := by decide +kernel
theorem dL_acts_213 : decode cL_acts 213 = .ok (.sipush 600, 3) := by decide +kernel
theorem dL_acts_216 : decode cL_acts 216 = .ok (.if_icmp .gt 16, 3) := by decide +kernel
theorem dL_acts_219 : decode cL_acts 219 = .ok (.iload_n 3, 1) := by decide +kernel
theorem dL_acts_220 : decode cL_acts 220 = .ok (.iload 4, 2) := by decide +kernel
theorem dL_acts_222 : decode cL_acts 222 = .ok (.iadd, 1) := by decide +kernel
theorem dL_acts_223 : decode cL_acts 223 = .ok (.invokestatic 127, 3) := by decide +kernel
theorem dL_acts_226 : decode cL_acts 226 = .ok (.sipush 3600, 3) := by decide +kernel
theorem dL_acts_229 : decode cL_acts 229 = .ok (.if_icmp .le 7, 3) := by decide +kernel
theorem dL_acts_232 : decode cL_acts 232 = .ok (.iconst (-1), 1) := by decide +kernel
theorem dL_acts_233 : decode cL_acts 233 = .ok (.goto 4, 3) := by decide +kernel
theorem dL_acts_236 : decode cL_acts 236 = .ok (.iconst 0, 1) := by decide +kernel
theorem dL_acts_237 : decode cL_acts 237 = .ok (.ireturn, 1) := by decide +kernel
theorem dL_acts_238 : decode cL_acts 238 = .ok (.aload_n 0, 1) := by decide +kernel
theorem dL_acts_239 : decode cL_acts 239 = .ok (.aload_n 2, 1) := by decide +kernel
theorem dL_acts_240 : decode cL_acts 240 = .ok (.bipush 30, 2) := by decide +kernel
theorem dL_acts_242 : decode cL_acts 242 = .ok (.invokevirtual 112, 3) := by decide +kernel
theorem dL_acts_245 : decode cL_acts 245 = .ok (.ifCond .ne 8, 3) := by decide +kernel
theorem dL_acts_248 : decode cL_acts 248 = .ok (.bipush 31, 2) := by decide +kernel
theorem dL_acts_250 : decode cL_acts 250 = .ok (.goto 9, 3) := by decide +kernel
theorem dL_acts_253 : decode cL_acts 253 = .ok (.aload_n 2, 1) := by decide +kernel
theorem dL_acts_254 : decode cL_acts 254 = .ok (.bipush 31, 2) := by decide +kernel
theorem dL_acts_256 : decode cL_acts 256 = .ok (.invokevirtual 112, 3) := by decide +kernel
theorem dL_acts_259 : decode cL_acts 259 = .ok (.invokestatic 132, 3) := by decide +kernel
theorem dL_acts_262 : decode cL_acts 262 = .ok (.ireturn, 1) := by decide +kernel
theorem dL_acts_263 : decode cL_acts 263 = .ok (.aload_n 0, 1) := by decide +kernel
theorem dL_acts_264 : decode cL_acts 264 = .ok (.aload_n 2, 1) := by decide +kernel
theorem dL_acts_265 : decode cL_acts 265 = .ok (.bipush 20, 2) := by decide +kernel
theorem dL_acts_267 : decode cL_acts 267 = .ok (.invokevirtual 112, 3) := by decide +kernel
theorem dL_acts_270 : decode cL_acts 270 = .ok (.ifCond .ne 9, 3) := by decide +kernel
theorem dL_acts_273 : decode cL_acts 273 = .ok (.sipush 1599, 3) := by decide +kernel
theorem dL_acts_276 : decode cL_acts 276 = .ok (.goto 14, 3) := by decide +kernel
theorem dL_acts_279 : decode cL_acts 279 = .ok (.sipush 1600, 3) := by decide +kernel
theorem dL_acts_282 : decode cL_acts 282 = .ok (.aload_n 2, 1) := by decide +kernel
theorem dL_acts_283 : decode cL_acts 283 = .ok (.sipush 1390, 3) := by decide +kernel
theorem dL_acts_286 : decode cL_acts 286 = .ok (.invokevirtual 112, 3) := by decide +kernel
theorem dL_acts_289 : decode cL_acts 289 = .ok (.iadd, 1) := by decide +kernel
theorem dL_acts_290 : decode cL_acts 290 = .ok (.iconst 1, 1) := by decide +kernel
theorem dL_acts_291 : decode cL_acts 291 = .ok (.aload_n 2, 1) := by decide +kernel
theorem dL_acts_292 : decode cL_acts 292 = .ok (.bipush 12, 2) := by decide +kernel
theorem dL_acts_294 : decode cL_acts 294 = .ok (.invokevirtual 112, 3) := by decide +kernel
theorem dL_acts_297 : decode cL_acts 297 = .ok (.iadd, 1) := by decide +kernel
theorem dL_acts_298 : decode cL_acts 298 = .ok (.iconst 1, 1) := by decide +kernel
theorem dL_acts_299 : decode cL_acts 299 = .ok (.aload_n 2, 1) := by decide +kernel
theorem dL_acts_300 : decode cL_acts 300 = .ok (.bipush 31, 2) := by decide +kernel
theorem dL_acts_302 : decode cL_acts 302 = .ok (.invokevirtual 112, 3) := by decide +kernel
theorem dL_acts_305 : decode cL_acts 305 = .ok (.iadd, 1) := by decide +kernel
theorem dL_acts_306 : decode cL_acts 306 = .ok (.invokestatic 134, 3) := by decide +kernel
theorem dL_acts_309 : decode cL_acts 309 = .ok (.ireturn, 1) := by decide +kernel
theorem dL_acts_310 : decode cL_acts 310 = .ok (.aload_n 0, 1) := by decide +kernel
theorem dL_acts_311 : decode cL_acts 311 = .ok (.aload_n 2, 1) := by decide +kernel
theorem dL_acts_312 : decode cL_acts 312 = .ok (.bipush 30, 2) := by decide +kernel
theorem dL_acts_314 : decode cL_acts 314 = .ok (.invokevirtual 112, 3) := by decide +kernel
theorem dL_acts_317 : decode cL_acts 317 = .ok (.ifCond .ne 8, 3) := by decide +kernel
theorem dL_acts_320 : decode cL_acts 320 = .ok (.bipush 24, 2) := by decide +kernel
theorem dL_acts_322 : decode cL_acts 322 = .ok (.goto 9, 3) := by decide +kernel
theorem dL_acts_325 : decode cL_acts 325 = .ok (.aload_n 2, 1) := by decide +kernel
theorem dL_acts_326 : decode cL_acts 326 = .ok (.bipush 24, 2) := by decide +kernel
theorem dL_acts_328 : decode cL_acts 328 = .ok (.invokevirtual 112, 3) := by decide +kernel
theorem dL_acts_331 : decode cL_acts 331 = .ok (.aload_n 2, 1) := by decide +kernel
theorem dL_acts_332 : decode cL_acts 332 = .ok (.bipush 24, 2) := by decide +kernel
theorem dL_acts_334 : decode cL_acts 334 = .ok (.invokevirtual 112, 3) := by decide +kernel
theorem dL_acts_337 : decode cL_acts 337 = .ok (.invokestatic 137, 3) := by decide +kernel
theorem dL_acts_340 : decode cL_acts 340 = .ok (.ireturn, 1) := by decide +kernel
theorem dL_acts_341 : decode cL_acts 341 = .ok (.aload_n 0, 1) := by decide +kernel
theorem dL_acts_342 : decode cL_acts 342 = .ok (.aload_n 2, 1) := by decide +kernel
theorem dL_acts_343 : decode cL_acts 343 = .ok (.iconst 3, 1) := by decide +kernel
theorem dL_acts_344 : decode cL_acts 344 = .ok (.invokevirtual 112, 3) := by decide +kernel
theorem dL_acts_347 : decode cL_acts 347 = .ok (.ifCond .le 7, 3) := by decide +kernel
theorem dL_acts_350 : decode cL_acts 350 = .ok (.iconst 1, 1) := by decide +kernel
theorem dL_acts_351 : decode cL_acts 351 = .ok (.goto 4, 3) := by decide +kernel
theorem dL_acts_354 : decode cL_acts 354 = .ok (.iconst 0, 1) := by decide +kernel
theorem dL_acts_355 : decode cL_acts 355 = .ok (.invokevirtual 139, 3) := by decide +kernel
theorem dL_acts_358 : decode cL_acts 358 = .ok (.ifCond .eq 7, 3) := by decide +kernel
theorem dL_acts_361 : decode cL_acts 361 = .ok (.iconst 1, 1) := by decide +kernel
theorem dL_acts_362 : decode cL_acts 362 = .ok (.goto 4, 3) := by decide +kernel
theorem dL_acts_365 : decode cL_acts 365 = .ok (.iconst 0, 1) := by decide +kernel
theorem dL_acts_366 : decode cL_acts 366 = .ok (.ireturn, 1) := by decide +kernel
theorem dL_acts_367 : decode cL_acts 367 = .ok (.aload_n 0, 1) := by decide +kernel
theorem dL_acts_368 : decode cL_acts 368 = .ok (.invokestatic 143, 3) := by decide +kernel
theorem dL_acts_371 : decode cL_acts 371 = .ok (.ireturn, 1) := by decide +kernel
theorem dL_acts_372 : decode cL_acts 372 = .ok (.aload_n 0, 1) := by decide +kernel
theorem dL_acts_373 : decode cL_acts 373 = .ok (.aload_n 2, 1) := by decide +kernel
theorem dL_acts_374 : decode cL_acts 374 = .ok (.iconst 3, 1) := by decide +kernel
theorem dL_acts_375 : decode cL_acts 375 = .ok (.invokevirtual 112, 3) := by decide +kernel
theorem dL_acts_378 : decode cL_acts 378 = .ok (.aload_n 2, 1) := by decide +kernel
theorem dL_acts_379 : decode cL_acts 379 = .ok (.bipush 40, 2) := by decide +kernel
theorem dL_acts_381 : decode cL_acts 381 = .ok (.invokevirtual 112, 3) := by decide +kernel
theorem dL_acts_384 : decode cL_acts 384 = .ok (.ifCond .ne 8, 3) := by decide +kernel
theorem dL_acts_387 : decode cL_acts 387 = .ok (.bipush 32, 2) := by decide +kernel
theorem dL_acts_389 : decode cL_acts 389 = .ok (.goto 9, 3) := by decide +kernel
theorem dL_acts_392 : decode cL_acts 392 = .ok (.aload_n 2, 1) := by decide +kernel
theorem dL_acts_393 : decode cL_acts 393 = .ok (.bipush 32, 2) := by decide +kernel
theorem dL_acts_395 : decode cL_acts 395 = .ok (.invokevirtual 112, 3) := by decide +kernel
theorem dL_acts_398 : decode cL_acts 398 = .ok (.iconst 1, 1) := by decide +kernel
theorem dL_acts_399 : decode cL_acts 399 = .ok (.aload_n 2, 1) := by decide +kernel
theorem dL_acts_400 : decode cL_acts 400 = .ok (.bipush 8, 2) := by decide +kernel
theorem dL_acts_402 : decode cL_acts 402 = .ok (.invokevirtual 112, 3) := by decide +kernel
theorem dL_acts_405 : decode cL_acts 405 = .ok (.iadd, 1) := by decide +kernel
theorem dL_acts_406 : decode cL_acts 406 = .ok (.aload_n 2, 1) := by decide +kernel
theorem dL_acts_407 : decode cL_acts 407 = .ok (.iconst 4, 1) := by decide +kernel
theorem dL_acts_408 : decode cL_acts 408 = .ok (.invokevirtual 112, 3) := by decide +kernel
theorem dL_acts_411 : decode cL_acts 411 = .ok (.ifCond .le 7, 3) := by decide +kernel
theorem dL_acts_414 : decode cL_acts 414 = .ok (.iconst 1, 1) := by decide +kernel
theorem dL_acts_415 : decode cL_acts 415 = .ok (.goto 4, 3) := by decide +kernel
theorem dL_acts_418 : decode cL_acts 418 = .ok (.iconst 0, 1) := by decide +kernel
theorem dL_acts_419 : decode cL_acts 419 = .ok (.invokestatic 146, 3) := by decide +kernel
theorem dL_acts_422 : decode cL_acts 422 = .ok (.ireturn, 1) := by decide +kernel
theorem dL_acts_423 : decode cL_acts 423 = .ok (.aload_n 2, 1) := by decide +kernel
theorem dL_acts_424 : decode cL_acts 424 = .ok (.iconst 4, 1) := by decide +kernel
theorem dL_acts_425 : decode cL_acts 425 = .ok (.invokevirtual 112, 3) := by decide +kernel
theorem dL_acts_428 : decode cL_acts 428 = .ok (.iconst 1, 1) := by decide +kernel
theorem dL_acts_429 : decode cL_acts 429 = .ok (.isub, 1) := by decide +kernel
theorem dL_acts_430 : decode cL_acts 430 = .ok (.istore 5, 2) := by decide +kernel
theorem dL_acts_432 : decode cL_acts 432 = .ok (.aload_n 0, 1) := by decide +kernel
theorem dL_acts_433 : decode cL_acts 433 = .ok (.aload_n 2, 1) := by decide +kernel
theorem dL_acts_434 : decode cL_acts 434 = .ok (.bipush 40, 2) := by decide +kernel
theorem dL_acts_436 : decode cL_acts 436 = .ok (.invokevirtual 112, 3) := by decide +kernel
theorem dL_acts_439 : decode cL_acts 439 = .ok (.ifCond .ne 8, 3) := by decide +kernel
theorem dL_acts_442 : decode cL_acts 442 = .ok (.bipush 24, 2) := by decide +kernel
theorem dL_acts_444 : decode cL_acts 444 = .ok (.goto 9, 3) := by decide +kernel
theorem dL_acts_447 : decode cL_acts 447 = .ok (.aload_n 2, 1) := by decide +kernel
theorem dL_acts_448 : decode cL_acts 448 = .ok (.bipush 24, 2) := by decide +kernel
theorem dL_acts_450 : decode cL_acts 450 = .ok (.invokevirtual 112, 3) := by decide +kernel
theorem dL_acts_453 : decode cL_acts 453 = .ok (.iload 5, 2) := by decide +kernel
theorem dL_acts_455 : decode cL_acts 455 = .ok (.invokestatic 149, 3) := by decide +kernel
theorem dL_acts_458 : decode cL_acts 458 = .ok (.istore 6, 2) := by decide +kernel
theorem dL_acts_460 : decode cL_acts 460 = .ok (.iload 6, 2) := by decide +kernel
theorem dL_acts_462 : decode cL_acts 462 = .ok (.iconst (-1), 1) := by decide +kernel
theorem dL_acts_463 : decode cL_acts 463 = .ok (.if_icmp .ne 7, 3) := by decide +kernel
theorem dL_acts_466 : decode cL_acts 466 = .ok (.iconst 0, 1) := by decide +kernel
theorem dL_acts_467 : decode cL_acts 467 = .ok (.goto 5, 3) := by decide +kernel
theorem dL_acts_470 : decode cL_acts 470 = .ok (.iload 6, 2) := by decide +kernel
theorem dL_acts_472 : decode cL_acts 472 = .ok (.ireturn, 1) := by decide +kernel
theorem dL_acts_473 : decode cL_acts 473 = .ok (.aload_n 0, 1) := by decide +kernel
theorem dL_acts_474 : decode cL_acts 474 = .ok (.aload_n 2, 1) := by decide +kernel
theorem dL_acts_475 : decode cL_acts 475 = .ok (.bipush 30, 2) := by decide +kernel
theorem dL_acts_477 : decode cL_acts 477 = .ok (.invokevirtual 112, 3) := by decide +kernel
theorem dL_acts_480 : decode cL_acts 480 = .ok (.ifCond .ne 9, 3) := by decide +kernel
theorem dL_acts_483 : decode cL_acts 483 = .ok (.sipush 5001, 3) := by decide +kernel
theorem dL_acts_486 : decode cL_acts 486 = .ok (.goto 26, 3) := by decide +kernel
theorem dL_acts_489 : decode cL_acts 489 = .ok (.iconst 1, 1) := by decide +kernel
theorem dL_acts_490 : decode cL_acts 490 = .ok (.aload_n 2, 1) := by decide +kernel
theorem dL_acts_491 : decode cL_acts 491 = .ok (.aload_n 2, 1) := by decide +kernel
theorem dL_acts_492 : decode cL_acts 492 = .ok (.iconst 3, 1) := by decide +kernel
theorem dL_acts_493 : decode cL_acts 493 = .ok (.invokevirtual 112, 3) := by decide +kernel
theorem dL_acts_496 : decode cL_acts 496 = .ok (.ifCond .ne 9, 3) := by decide +kernel
theorem dL_acts_499 : decode cL_acts 499 = .ok (.sipush 5000, 3) := by decide +kernel
theorem dL_acts_502 : decode cL_acts 502 = .ok (.goto 6, 3) := by decide +kernel
theorem dL_acts_505 : decode cL_acts 505 = .ok (.sipush 400, 3) := by decide +kernel
theorem dL_acts_508 : decode cL_acts 508 = .ok (.invokevirtual 112, 3) := by decide +kernel
theorem dL_acts_511 : decode cL_acts 511 = .ok (.iadd, 1) := by decide +kernel
theorem dL_acts_512 : decode cL_acts 512 = .ok (.invokestatic 151, 3) := by decide +kernel
theorem dL_acts_515 : decode cL_acts 515 = .ok (.ireturn, 1) := by decide +kernel
theorem dL_told_0 : decode cL_told 0 = .ok (.new 153, 3) := by decide +kernel
theorem dL_told_3 : decode cL_told 3 = .ok (.dup, 1) := by decide +kernel
theorem dL_told_4 : decode cL_told 4 = .ok (.invokespecial 155, 3) := by decide +kernel
theorem dL_told_7 : decode cL_told 7 = .ok (.astore_n 1, 1) := by decide +kernel
theorem dL_told_8 : decode cL_told 8 = .ok (.aload_n 1, 1) := by decide +kernel
theorem dL_told_9 : decode cL_told 9 = .ok (.aload_n 0, 1) := by decide +kernel
theorem dL_told_10 : decode cL_told 10 = .ok (.invokevirtual 156, 3) := by decide +kernel
theorem dL_told_13 : decode cL_told 13 = .ok (.invokevirtual 159, 3) := by decide +kernel
theorem dL_told_16 : decode cL_told 16 = .ok (.bipush 47, 2) := by decide +kernel
theorem dL_told_18 : decode cL_told 18 = .ok (.invokevirtual 163, 3) := by decide +kernel
theorem dL_told_21 : decode cL_told 21 = .ok (.aload_n 0, 1) := by decide +kernel
theorem dL_told_22 : decode cL_told 22 = .ok (.invokevirtual 166, 3) := by decide +kernel
theorem dL_told_25 : decode cL_told 25 = .ok (.invokevirtual 170, 3) := by decide +kernel
theorem dL_told_28 : decode cL_told 28 = .ok (.bipush 47, 2) := by decide +kernel
theorem dL_told_30 : decode cL_told 30 = .ok (.invokevirtual 163, 3) := by decide +kernel
theorem dL_told_33 : decode cL_told 33 = .ok (.aload_n 0, 1) := by decide +kernel
theorem dL_told_34 : decode cL_told 34 = .ok (.invokevirtual 173, 3) := by decide +kernel
theorem dL_told_37 : decode cL_told 37 = .ok (.invokevirtual 159, 3) := by decide +kernel
theorem dL_told_40 : decode cL_told 40 = .ok (.bipush 47, 2) := by decide +kernel
theorem dL_told_42 : decode cL_told 42 = .ok (.invokevirtual 163, 3) := by decide +kernel
theorem dL_told_45 : decode cL_told 45 = .ok (.aload_n 0, 1) := by decide +kernel
theorem dL_told_46 : decode cL_told 46 = .ok (.iconst 0, 1) := by decide +kernel
theorem dL_told_47 : decode cL_told 47 = .ok (.invokestatic 124, 3) := by decide +kernel
theorem dL_told_50 : decode cL_told 50 = .ok (.invokevirtual 159, 3) := by decide +kernel
theorem dL_told_53 : decode cL_told 53 = .ok (.bipush 47, 2) := by decide +kernel
theorem dL_told_55 : decode cL_told 55 = .ok (.invokevirtual 163, 3) := by decide +kernel
theorem dL_told_58 : decode cL_told 58 = .ok (.aload_n 0, 1) := by decide +kernel
theorem dL_told_59 : decode cL_told 59 = .ok (.invokevirtual 176, 3) := by decide +kernel
theorem dL_told_62 : decode cL_told 62 = .ok (.invokevirtual 159, 3) := by decide +kernel
theorem dL_told_65 : decode cL_told 65 = .ok (.bipush 47, 2) := by decide +kernel
theorem dL_told_67 : decode cL_told 67 = .ok (.invokevirtual 163, 3) := by decide +kernel
theorem dL_told_70 : decode cL_told 70 = .ok (.aload_n 0, 1) := by decide +kernel
theorem dL_told_71 : decode cL_told 71 = .ok (.invokevirtual 179, 3) := by decide +kernel
theorem dL_told_74 : decode cL_told 74 = .ok (.invokevirtual 159, 3) := by decide +kernel
theorem dL_told_77 : decode cL_told 77 = .ok (.bipush 47, 2) := by decide +kernel
theorem dL_told_79 : decode cL_told 79 = .ok (.invokevirtual 163, 3) := by decide +kernel
theorem dL_told_82 : decode cL_told 82 = .ok (.aload_n 0, 1) := by decide +kernel
theorem dL_told_83 : decode cL_told 83 = .ok (.invokevirtual 182, 3) := by decide +kernel
theorem dL_told_86 : decode cL_told 86 = .ok (.invokevirtual 159, 3) := by decide +kernel
theorem dL_told_89 : decode cL_told 89 = .ok (.bipush 47, 2) := by decide +kernel
theorem dL_told_91 : decode cL_told 91 = .ok (.invokevirtual 163, 3) := by decide +kernel
theorem dL_told_94 : decode cL_told 94 = .ok (.aload_n 0, 1) := by decide +kernel
theorem dL_told_95 : decode cL_told 95 = .ok (.invokevirtual 185, 3) := by decide +kernel
theorem dL_told_98 : decode cL_told 98 = .ok (.invokevirtual 159, 3) := by decide +kernel
theorem dL_told_101 : decode cL_told 101 = .ok (.bipush 47, 2) := by decide +kernel
theorem dL_told_103 : decode cL_told 103 = .ok (.invokevirtual 163, 3) := by decide +kernel
theorem dL_told_106 : decode cL_told 106 = .ok (.aload_n 0, 1) := by decide +kernel
theorem dL_told_107 : decode cL_told 107 = .ok (.invokevirtual 188, 3) := by decide +kernel
theorem dL_told_110 : decode cL_told 110 = .ok (.invokevirtual 159, 3) := by decide +kernel
theorem dL_told_113 : decode cL_told 113 = .ok (.bipush 47, 2) := by decide +kernel
theorem dL_told_115 : decode cL_told 115 = .ok (.invokevirtual 163, 3) := by decide +kernel
theorem dL_told_118 : decode cL_told 118 = .ok (.aload_n 0, 1) := by decide +kernel
theorem dL_told_119 : decode cL_told 119 = .ok (.iconst 0, 1) := by decide +kernel
theorem dL_told_120 : decode cL_told 120 = .ok (.invokestatic 191, 3) := by decide +kernel
theorem dL_told_123 : decode cL_told 123 = .ok (.invokevirtual 159, 3) := by decide +kernel
theorem dL_told_126 : decode cL_told 126 = .ok (.bipush 47, 2) := by decide +kernel
theorem dL_told_128 : decode cL_told 128 = .ok (.invokevirtual 163, 3) := by decide +kernel
theorem dL_told_131 : decode cL_told 131 = .ok (.aload_n 0, 1) := by decide +kernel
theorem dL_told_132 : decode cL_told 132 = .ok (.iconst 1, 1) := by decide +kernel
theorem dL_told_133 : decode cL_told 133 = .ok (.invokestatic 191, 3) := by decide +kernel
theorem dL_told_136 : decode cL_told 136 = .ok (.invokevirtual 159, 3) := by decide +kernel
theorem dL_told_139 : decode cL_told 139 = .ok (.bipush 47, 2) := by decide +kernel
theorem dL_told_141 : decode cL_told 141 = .ok (.invokevirtual 163, 3) := by decide +kernel
theorem dL_told_144 : decode cL_told 144 = .ok (.aload_n 0, 1) := by decide +kernel
theorem dL_told_145 : decode cL_told 145 = .ok (.invokestatic 193, 3) := by decide +kernel
theorem dL_told_148 : decode cL_told 148 = .ok (.invokevirtual 196, 3) := by decide +kernel
theorem dL_told_151 : decode cL_told 151 = .ok (.bipush 47, 2) := by decide +kernel
theorem dL_told_153 : decode cL_told 153 = .ok (.invokevirtual 163, 3) := by decide +kernel
theorem dL_told_156 : decode cL_told 156 = .ok (.aload_n 0, 1) := by decide +kernel
theorem dL_told_157 : decode cL_told 157 = .ok (.iconst 0, 1) := by decide +kernel
theorem dL_told_158 : decode cL_told 158 = .ok (.invokestatic 199, 3) := by decide +kernel
theorem dL_told_161 : decode cL_told 161 = .ok (.invokevirtual 159, 3) := by decide +kernel
theorem dL_told_164 : decode cL_told 164 = .ok (.bipush 47, 2) := by decide +kernel
theorem dL_told_166 : decode cL_told 166 = .ok (.invokevirtual 163, 3) := by decide +kernel
theorem dL_told_169 : decode cL_told 169 = .ok (.aload_n 0, 1) := by decide +kernel
theorem dL_told_170 : decode cL_told 170 = .ok (.sipush 700, 3) := by decide +kernel
theorem dL_told_173 : decode cL_told 173 = .ok (.invokestatic 201, 3) := by decide +kernel
theorem dL_told_176 : decode cL_told 176 = .ok (.invokevirtual 159, 3) := by decide +kernel
theorem dL_told_179 : decode cL_told 179 = .ok (.pop, 1) := by decide +kernel
theorem dL_told_180 : decode cL_told 180 = .ok (.iconst 0, 1) := by decide +kernel
theorem dL_told_181 : decode cL_told 181 = .ok (.istore_n 2, 1) := by decide +kernel
theorem dL_told_182 : decode cL_told 182 = .ok (.iload_n 2, 1) := by decide +kernel
theorem dL_told_183 : decode cL_told 183 = .ok (.bipush 9, 2) := by decide +kernel
theorem dL_told_185 : decode cL_told 185 = .ok (.if_icmp .ge 64, 3) := by decide +kernel
theorem dL_told_188 : decode cL_told 188 = .ok (.aload_n 1, 1) := by decide +kernel
theorem dL_told_189 : decode cL_told 189 = .ok (.bipush 59, 2) := by decide +kernel
theorem dL_told_191 : decode cL_told 191 = .ok (.invokevirtual 163, 3) := by decide +kernel
theorem dL_told_194 : decode cL_told 194 = .ok (.aload_n 0, 1) := by decide +kernel
theorem dL_told_195 : decode cL_told 195 = .ok (.iload_n 2, 1) := by decide +kernel
theorem dL_told_196 : decode cL_told 196 = .ok (.invokestatic 203, 3) := by decide +kernel
theorem dL_told_199 : decode cL_told 199 = .ok (.invokevirtual 159, 3) := by decide +kernel
theorem dL_told_202 : decode cL_told 202 = .ok (.bipush 44, 2) := by decide +kernel
theorem dL_told_204 : decode cL_told 204 = .ok (.invokevirtual 163, 3) := by decide +kernel
theorem dL_told_207 : decode cL_told 207 = .ok (.aload_n 0, 1) := by decide +kernel
theorem dL_told_208 : decode cL_told 208 = .ok (.iload_n 2, 1) := by decide +kernel
theorem dL_told_209 : decode cL_told 209 = .ok (.invokestatic 205, 3) := by decide +kernel
theorem dL_told_212 : decode cL_told 212 = .ok (.invokevirtual 159, 3) := by decide +kernel
theorem dL_told_215 : decode cL_told 215 = .ok (.bipush 44, 2) := by decide +kernel
theorem dL_told_217 : decode cL_told 217 = .ok (.invokevirtual 163, 3) := by decide +kernel
theorem dL_told_220 : decode cL_told 220 = .ok (.aload_n 0, 1) := by decide +kernel
theorem dL_told_221 : decode cL_told 221 = .ok (.iload_n 2, 1) := by decide +kernel
theorem dL_told_222 : decode cL_told 222 = .ok (.invokestatic 207, 3) := by decide +kernel
theorem dL_told_225 : decode cL_told 225 = .ok (.invokevirtual 159, 3) := by decide +kernel
theorem dL_told_228 : decode cL_told 228 = .ok (.bipush 44, 2) := by decide +kernel
theorem dL_told_230 : decode cL_told 230 = .ok (.invokevirtual 163, 3) := by decide +kernel
theorem dL_told_233 : decode cL_told 233 = .ok (.aload_n 0, 1) := by decide +kernel
theorem dL_told_234 : decode cL_told 234 = .ok (.iconst 0, 1) := by decide +kernel
theorem dL_told_235 : decode cL_told 235 = .ok (.iload_n 2, 1) := by decide +kernel
theorem dL_told_236 : decode cL_told 236 = .ok (.invokestatic 209, 3) := by decide +kernel
theorem dL_told_239 : decode cL_told 239 = .ok (.invokevirtual 159, 3) := by decide +kernel
theorem dL_told_242 : decode cL_told 242 = .ok (.pop, 1) := by decide +kernel
theorem dL_told_243 : decode cL_told 243 = .ok (.iinc 2 1, 3) := by decide +kernel
theorem dL_told_246 : decode cL_told 246 = .ok (.goto (-64), 3) := by decide +kernel
theorem dL_told_249 : decode cL_told 249 = .ok (.aload_n 1, 1) := by decide +kernel
theorem dL_told_250 : decode cL_told 250 = .ok (.invokevirtual 211, 3) := by decide +kernel
theorem dL_told_253 : decode cL_told 253 = .ok (.areturn, 1) := by decide +kernel
theorem dL_ahead_0 : decode cL_ahead 0 = .ok (.iconst 1, 1) := by decide +kernel
theorem dL_ahead_1 : decode cL_ahead 1 = .ok (.aload_n 1, 1) := by decide +kernel
theorem dL_ahead_2 : decode cL_ahead 2 = .ok (.aload_n 1, 1) := by decide +kernel
theorem dL_ahead_3 : decode cL_ahead 3 = .ok (.iconst 2, 1) := by decide +kernel
theorem dL_ahead_4 : decode cL_ahead 4 = .ok (.invokevirtual 112, 3) := by decide +kernel
theorem dL_ahead_7 : decode cL_ahead 7 = .ok (.ifCond .ne 9, 3) := by decide +kernel
theorem dL_ahead_10 : decode cL_ahead 10 = .ok (.sipush 300, 3) := by decide +kernel
theorem dL_ahead_13 : decode cL_ahead 13 = .ok (.goto 6, 3) := by decide +kernel
theorem dL_ahead_16 : decode cL_ahead 16 = .ok (.sipush 3000, 3) := by decide +kernel
theorem dL_ahead_19 : decode cL_ahead 19 = .ok (.invokevirtual 112, 3) := by decide +kernel
theorem dL_ahead_22 : decode cL_ahead 22 = .ok (.iadd, 1) := by decide +kernel
theorem dL_ahead_23 : decode cL_ahead 23 = .ok (.istore_n 2, 1) := by decide +kernel
theorem dL_ahead_24 : decode cL_ahead 24 = .ok (.aload_n 1, 1) := by decide +kernel
theorem dL_ahead_25 : decode cL_ahead 25 = .ok (.aload_n 0, 1) := by decide +kernel
theorem dL_ahead_26 : decode cL_ahead 26 = .ok (.invokevirtual 156, 3) := by decide +kernel
theorem dL_ahead_29 : decode cL_ahead 29 = .ok (.invokevirtual 112, 3) := by decide +kernel
theorem dL_ahead_32 : decode cL_ahead 32 = .ok (.istore_n 3, 1) := by decide +kernel
theorem dL_ahead_33 : decode cL_ahead 33 = .ok (.aload_n 0, 1) := by decide +kernel
theorem dL_ahead_34 : decode cL_ahead 34 = .ok (.iload_n 2, 1) := by decide +kernel
theorem dL_ahead_35 : decode cL_ahead 35 = .ok (.invokestatic 201, 3) := by decide +kernel
theorem dL_ahead_38 : decode cL_ahead 38 = .ok (.istore 4, 2) := by decide +kernel
theorem dL_ahead_40 : decode cL_ahead 40 = .ok (.aload_n 0, 1) := by decide +kernel
theorem dL_ahead_41 : decode cL_ahead 41 = .ok (.iload_n 3, 1) := by decide +kernel
theorem dL_ahead_42 : decode cL_ahead 42 = .ok (.iload_n 2, 1) := by decide +kernel
theorem dL_ahead_43 : decode cL_ahead 43 = .ok (.invokestatic 215, 3) := by decide +kernel
theorem dL_ahead_46 : decode cL_ahead 46 = .ok (.istore 5, 2) := by decide +kernel
theorem dL_ahead_48 : decode cL_ahead 48 = .ok (.aload_n 0, 1) := by decide +kernel
theorem dL_ahead_49 : decode cL_ahead 49 = .ok (.invokestatic 217, 3) := by decide +kernel
theorem dL_ahead_52 : decode cL_ahead 52 = .ok (.istore 6, 2) := by decide +kernel
theorem dL_ahead_54 : decode cL_ahead 54 = .ok (.aload_n 0, 1) := by decide +kernel
theorem dL_ahead_55 : decode cL_ahead 55 = .ok (.invokevirtual 188, 3) := by decide +kernel
theorem dL_ahead_58 : decode cL_ahead 58 = .ok (.istore 7, 2) := by decide +kernel
theorem dL_ahead_60 : decode cL_ahead 60 = .ok (.aload_n 0, 1) := by decide +kernel
theorem dL_ahead_61 : decode cL_ahead 61 = .ok (.invokevirtual 166, 3) := by decide +kernel
theorem dL_ahead_64 : decode cL_ahead 64 = .ok (.lstore 8, 2) := by decide +kernel
theorem dL_ahead_66 : decode cL_ahead 66 = .ok (.iload 4, 2) := by decide +kernel
theorem dL_ahead_68 : decode cL_ahead 68 = .ok (.aload_n 0, 1) := by decide +kernel
theorem dL_ahead_69 : decode cL_ahead 69 = .ok (.iload_n 2, 1) := by decide +kernel
theorem dL_ahead_70 : decode cL_ahead 70 = .ok (.invokestatic 220, 3) := by decide +kernel
theorem dL_ahead_73 : decode cL_ahead 73 = .ok (.if_icmp .ne 68, 3) := by decide +kernel
theorem dL_ahead_76 : decode cL_ahead 76 = .ok (.iload 5, 2) := by decide +kernel
theorem dL_ahead_78 : decode cL_ahead 78 = .ok (.aload_n 0, 1) := by decide +kernel
theorem dL_ahead_79 : decode cL_ahead 79 = .ok (.iload_n 3, 1) := by decide +kernel
theorem dL_ahead_80 : decode cL_ahead 80 = .ok (.iload_n 2, 1) := by decide +kernel
theorem dL_ahead_81 : decode cL_ahead 81 = .ok (.invokestatic 222, 3) := by decide +kernel
theorem dL_ahead_84 : decode cL_ahead 84 = .ok (.if_icmp .ne 57, 3) := by decide +kernel
theorem dL_ahead_87 : decode cL_ahead 87 = .ok (.iload 5, 2) := by decide +kernel
theorem dL_ahead_89 : decode cL_ahead 89 = .ok (.aload_n 0, 1) := by decide +kernel
theorem dL_ahead_90 : decode cL_ahead 90 = .ok (.iload_n 3, 1) := by decide +kernel
theorem dL_ahead_91 : decode cL_ahead 91 = .ok (.invokestatic 205, 3) := by decide +kernel
theorem dL_ahead_94 : decode cL_ahead 94 = .ok (.if_icmp .lt 47, 3) := by decide +kernel
theorem dL_ahead_97 : decode cL_ahead 97 = .ok (.aload_n 0, 1) := by decide +kernel
theorem dL_ahead_98 : decode cL_ahead 98 = .ok (.iconst 0, 1) := by decide +kernel
theorem dL_ahead_99 : decode cL_ahead 99 = .ok (.invokestatic 201, 3) := by decide +kernel
theorem dL_ahead_102 : decode cL_ahead 102 = .ok (.iconst (-1), 1) := by decide +kernel
theorem dL_ahead_103 : decode cL_ahead 103 = .ok (.if_icmp .ne 38, 3) := by decide +kernel
theorem dL_ahead_106 : decode cL_ahead 106 = .ok (.aload_n 0, 1) := by decide +kernel
theorem dL_ahead_107 : decode cL_ahead 107 = .ok (.sipush 5001, 3) := by decide +kernel
theorem dL_ahead_110 : decode cL_ahead 110 = .ok (.invokestatic 220, 3) := by decide +kernel
theorem dL_ahead_113 : decode cL_ahead 113 = .ok (.iconst (-1), 1) := by decide +kernel
theorem dL_ahead_114 : decode cL_ahead 114 = .ok (.if_icmp .ne 27, 3) := by decide +kernel
theorem dL_ahead_117 : decode cL_ahead 117 = .ok (.aload_n 0, 1) := by decide +kernel
theorem dL_ahead_118 : decode cL_ahead 118 = .ok (.bipush 6, 2) := by decide +kernel
theorem dL_ahead_120 : decode cL_ahead 120 = .ok (.iconst 1, 1) := by decide +kernel
theorem dL_ahead_121 : decode cL_ahead 121 = .ok (.invokestatic 215, 3) := by decide +kernel
theorem dL_ahead_124 : decode cL_ahead 124 = .ok (.iconst (-1), 1) := by decide +kernel
theorem dL_ahead_125 : decode cL_ahead 125 = .ok (.if_icmp .ne 16, 3) := by decide +kernel
theorem dL_ahead_128 : decode cL_ahead 128 = .ok (.aload_n 0, 1) := by decide +kernel
theorem dL_ahead_129 : decode cL_ahead 129 = .ok (.iconst 0, 1) := by decide +kernel
theorem dL_ahead_130 : decode cL_ahead 130 = .ok (.sipush 5001, 3) := by decide +kernel
theorem dL_ahead_133 : decode cL_ahead 133 = .ok (.invokestatic 215, 3) := by decide +kernel
theorem dL_ahead_136 : decode cL_ahead 136 = .ok (.bipush (-2), 2) := by decide +kernel
theorem dL_ahead_138 : decode cL_ahead 138 = .ok (.if_icmp .eq 5, 3) := by decide +kernel
theorem dL_ahead_141 : decode cL_ahead 141 = .ok (.iconst 0, 1) := by decide +kernel
theorem dL_ahead_142 : decode cL_ahead 142 = .ok (.ireturn, 1) := by decide +kernel
theorem dL_ahead_143 : decode cL_ahead 143 = .ok (.aload_n 0, 1) := by decide +kernel
theorem dL_ahead_144 : decode cL_ahead 144 = .ok (.iload_n 2, 1) := by decide +kernel
theorem dL_ahead_145 : decode cL_ahead 145 = .ok (.invokestatic 151, 3) := by decide +kernel
theorem dL_ahead_148 : decode cL_ahead 148 = .ok (.iload 4, 2) := by decide +kernel
theorem dL_ahead_150 : decode cL_ahead 150 = .ok (.if_icmp .ne 92, 3) := by decide +kernel
theorem dL_ahead_153 : decode cL_ahead 153 = .ok (.aload_n 0, 1) := by decide +kernel
theorem dL_ahead_154 : decode cL_ahead 154 = .ok (.iload_n 3, 1) := by decide +kernel
theorem dL_ahead_155 : decode cL_ahead 155 = .ok (.invokestatic 205, 3) := by decide +kernel
theorem dL_ahead_158 : decode cL_ahead 158 = .ok (.iload 5, 2) := by decide +kernel
theorem dL_ahead_160 : decode cL_ahead 160 = .ok (.if_icmp .ne 82, 3) := by decide +kernel
theorem dL_ahead_163 : decode cL_ahead 163 = .ok (.aload_n 0, 1) := by decide +kernel
theorem dL_ahead_164 : decode cL_ahead 164 = .ok (.invokestatic 217, 3) := by decide +kernel
theorem dL_ahead_167 : decode cL_ahead 167 = .ok (.iload 6, 2) := by decide +kernel
theorem dL_ahead_169 : decode cL_ahead 169 = .ok (.iload 4, 2) := by decide +kernel
theorem dL_ahead_171 : decode cL_ahead 171 = .ok (.iadd, 1) := by decide +kernel
theorem dL_ahead_172 : decode cL_ahead 172 = .ok (.if_icmp .ne 70, 3) := by decide +kernel
theorem dL_ahead_175 : decode cL_ahead 175 = .ok (.aload_n 0, 1) := by decide +kernel
theorem dL_ahead_176 : decode cL_ahead 176 = .ok (.invokevirtual 166, 3) := by decide +kernel
theorem dL_ahead_179 : decode cL_ahead 179 = .ok (.lload 8, 2) := by decide +kernel
theorem dL_ahead_181 : decode cL_ahead 181 = .ok (.iload_n 2, 1) := by decide +kernel
theorem dL_ahead_182 : decode cL_ahead 182 = .ok (.i2l, 1) := by decide +kernel
theorem dL_ahead_183 : decode cL_ahead 183 = .ok (.ladd, 1) := by decide +kernel
theorem dL_ahead_184 : decode cL_ahead 184 = .ok (.lcmp, 1) := by decide +kernel
theorem dL_ahead_185 : decode cL_ahead 185 = .ok (.ifCond .ne 57, 3) := by decide +kernel
theorem dL_ahead_188 : decode cL_ahead 188 = .ok (.aload_n 0, 1) := by decide +kernel
theorem dL_ahead_189 : decode cL_ahead 189 = .ok (.invokevirtual 188, 3) := by decide +kernel
theorem dL_ahead_192 : decode cL_ahead 192 = .ok (.iload 7, 2) := by decide +kernel
theorem dL_ahead_194 : decode cL_ahead 194 = .ok (.if_icmp .lt 48, 3) := by decide +kernel
theorem dL_ahead_197 : decode cL_ahead 197 = .ok (.iload 4, 2) := by decide +kernel
theorem dL_ahead_199 : decode cL_ahead 199 = .ok (.ifCond .le 7, 3) := by decide +kernel
theorem dL_ahead_202 : decode cL_ahead 202 = .ok (.iconst 1, 1) := by decide +kernel
theorem dL_ahead_203 : decode cL_ahead 203 = .ok (.goto 4, 3) := by decide +kernel
theorem dL_ahead_206 : decode cL_ahead 206 = .ok (.iconst 0, 1) := by decide +kernel
theorem dL_ahead_207 : decode cL_ahead 207 = .ok (.aload_n 0, 1) := by decide +kernel
theorem dL_ahead_208 : decode cL_ahead 208 = .ok (.invokevirtual 188, 3) := by decide +kernel
theorem dL_ahead_211 : decode cL_ahead 211 = .ok (.iload 7, 2) := by decide +kernel
theorem dL_ahead_213 : decode cL_ahead 213 = .ok (.if_icmp .le 7, 3) := by decide +kernel
theorem dL_ahead_216 : decode cL_ahead 216 = .ok (.iconst 1, 1) := by decide +kernel
theorem dL_ahead_217 : decode cL_ahead 217 = .ok (.goto 4, 3) := by decide +kernel
theorem dL_ahead_220 : decode cL_ahead 220 = .ok (.iconst 0, 1) := by decide +kernel
theorem dL_ahead_221 : decode cL_ahead 221 = .ok (.if_icmp .ne 21, 3) := by decide +kernel
theorem dL_ahead_224 : decode cL_ahead 224 = .ok (.aload_n 0, 1) := by decide +kernel
theorem dL_ahead_225 : decode cL_ahead 225 = .ok (.iconst 0, 1) := by decide +kernel
theorem dL_ahead_226 : decode cL_ahead 226 = .ok (.invokestatic 205, 3) := by decide +kernel
theorem dL_ahead_229 : decode cL_ahead 229 = .ok (.i2l, 1) := by decide +kernel
theorem dL_ahead_230 : decode cL_ahead 230 = .ok (.aload_n 0, 1) := by decide +kernel
theorem dL_ahead_231 : decode cL_ahead 231 = .ok (.invokevirtual 166, 3) := by decide +kernel
theorem dL_ahead_234 : decode cL_ahead 234 = .ok (.lcmp, 1) := by decide +kernel
theorem dL_ahead_235 : decode cL_ahead 235 = .ok (.ifCond .ne 7, 3) := by decide +kernel
theorem dL_ahead_238 : decode cL_ahead 238 = .ok (.iconst 1, 1) := by decide +kernel
theorem dL_ahead_239 : decode cL_ahead 239 = .ok (.goto 4, 3) := by decide +kernel
theorem dL_ahead_242 : decode cL_ahead 242 = .ok (.iconst 0, 1) := by decide +kernel
theorem dL_ahead_243 : decode cL_ahead 243 = .ok (.ireturn, 1) := by decide +kernel
theorem dL_total_0 : decode cL_total 0 = .ok (.iconst 0, 1) := by decide +kernel
theorem dL_total_1 : decode cL_total 1 = .ok (.istore_n 1, 1) := by decide +kernel
theorem dL_total_2 : decode cL_total 2 = .ok (.iconst 0, 1) := by decide +kernel
theorem dL_total_3 : decode cL_total 3 = .ok (.istore_n 2, 1) := by decide +kernel
theorem dL_total_4 : decode cL_total 4 = .ok (.iload_n 2, 1) := by decide +kernel
theorem dL_total_5 : decode cL_total 5 = .ok (.bipush 9, 2) := by decide +kernel
theorem dL_total_7 : decode cL_total 7 = .ok (.if_icmp .ge 17, 3) := by decide +kernel
theorem dL_total_10 : decode cL_total 10 = .ok (.iload_n 1, 1) := by decide +kernel
theorem dL_total_11 : decode cL_total 11 = .ok (.aload_n 0, 1) := by decide +kernel
theorem dL_total_12 : decode cL_total 12 = .ok (.iload_n 2, 1) := by decide +kernel
theorem dL_total_13 : decode cL_total 13 = .ok (.invokestatic 203, 3) := by decide +kernel
theorem dL_total_16 : decode cL_total 16 = .ok (.iadd, 1) := by decide +kernel
theorem dL_total_17 : decode cL_total 17 = .ok (.istore_n 1, 1) := by decide +kernel
theorem dL_total_18 : decode cL_total 18 = .ok (.iinc 2 1, 3) := by decide +kernel
theorem dL_total_21 : decode cL_total 21 = .ok (.goto (-17), 3) := by decide +kernel
theorem dL_total_24 : decode cL_total 24 = .ok (.iload_n 1, 1) := by decide +kernel
theorem dL_total_25 : decode cL_total 25 = .ok (.ireturn, 1) := by decide +kernel
theorem dL_logged_0 : decode cL_logged 0 = .ok (.bipush 40, 2) := by decide +kernel
theorem dL_logged_2 : decode cL_logged 2 = .ok (.aload_n 0, 1) := by decide +kernel
theorem dL_logged_3 : decode cL_logged 3 = .ok (.invokevirtual 188, 3) := by decide +kernel
theorem dL_logged_6 : decode cL_logged 6 = .ok (.invokestatic 224, 3) := by decide +kernel
theorem dL_logged_9 : decode cL_logged 9 = .ok (.istore_n 1, 1) := by decide +kernel
theorem dL_logged_10 : decode cL_logged 10 = .ok (.ldc 229, 2) := by decide +kernel
theorem dL_logged_12 : decode cL_logged 12 = .ok (.istore_n 2, 1) := by decide +kernel
theorem dL_logged_13 : decode cL_logged 13 = .ok (.iconst 0, 1) := by decide +kernel
theorem dL_logged_14 : decode cL_logged 14 = .ok (.istore_n 3, 1) := by decide +kernel
theorem dL_logged_15 : decode cL_logged 15 = .ok (.iload_n 3, 1) := by decide +kernel
theorem dL_logged_16 : decode cL_logged 16 = .ok (.iload_n 1, 1) := by decide +kernel
theorem dL_logged_17 : decode cL_logged 17 = .ok (.if_icmp .ge 63, 3) := by decide +kernel
theorem dL_logged_20 : decode cL_logged 20 = .ok (.aload_n 0, 1) := by decide +kernel
theorem dL_logged_21 : decode cL_logged 21 = .ok (.iload_n 3, 1) := by decide +kernel
theorem dL_logged_22 : decode cL_logged 22 = .ok (.invokestatic 199, 3) := by decide +kernel
theorem dL_logged_25 : decode cL_logged 25 = .ok (.istore 4, 2) := by decide +kernel
theorem dL_logged_27 : decode cL_logged 27 = .ok (.aload_n 0, 1) := by decide +kernel
theorem dL_logged_28 : decode cL_logged 28 = .ok (.iload 4, 2) := by decide +kernel
theorem dL_logged_30 : decode cL_logged 30 = .ok (.invokestatic 230, 3) := by decide +kernel
theorem dL_logged_33 : decode cL_logged 33 = .ok (.istore 5, 2) := by decide +kernel
theorem dL_logged_35 : decode cL_logged 35 = .ok (.iload 4, 2) := by decide +kernel
theorem dL_logged_37 : decode cL_logged 37 = .ok (.iload_n 2, 1) := by decide +kernel
theorem dL_logged_38 : decode cL_logged 38 = .ok (.if_icmp .ge 31, 3) := by decide +kernel
theorem dL_logged_41 : decode cL_logged 41 = .ok (.iload 4, 2) := by decide +kernel
theorem dL_logged_43 : decode cL_logged 43 = .ok (.iconst 1, 1) := by decide +kernel
theorem dL_logged_44 : decode cL_logged 44 = .ok (.if_icmp .lt 25, 3) := by decide +kernel
theorem dL_logged_47 : decode cL_logged 47 = .ok (.iload 5, 2) := by decide +kernel
theorem dL_logged_49 : decode cL_logged 49 = .ok (.iconst 1, 1) := by decide +kernel
theorem dL_logged_50 : decode cL_logged 50 = .ok (.if_icmp .lt 19, 3) := by decide +kernel
theorem dL_logged_53 : decode cL_logged 53 = .ok (.iload 4, 2) := by decide +kernel
theorem dL_logged_55 : decode cL_logged 55 = .ok (.iconst 4, 1) := by decide +kernel
theorem dL_logged_56 : decode cL_logged 56 = .ok (.irem, 1) := by decide +kernel
theorem dL_logged_57 : decode cL_logged 57 = .ok (.ifCond .le 14, 3) := by decide +kernel
theorem dL_logged_60 : decode cL_logged 60 = .ok (.iload 5, 2) := by decide +kernel
theorem dL_logged_62 : decode cL_logged 62 = .ok (.iload 4, 2) := by decide +kernel
theorem dL_logged_64 : decode cL_logged 64 = .ok (.iconst 4, 1) := by decide +kernel
theorem dL_logged_65 : decode cL_logged 65 = .ok (.irem, 1) := by decide +kernel
theorem dL_logged_66 : decode cL_logged 66 = .ok (.if_icmp .eq 5, 3) := by decide +kernel
theorem dL_logged_69 : decode cL_logged 69 = .ok (.iconst 0, 1) := by decide +kernel
theorem dL_logged_70 : decode cL_logged 70 = .ok (.ireturn, 1) := by decide +kernel
theorem dL_logged_71 : decode cL_logged 71 = .ok (.iload 4, 2) := by decide +kernel
theorem dL_logged_73 : decode cL_logged 73 = .ok (.istore_n 2, 1) := by decide +kernel
theorem dL_logged_74 : decode cL_logged 74 = .ok (.iinc 3 1, 3) := by decide +kernel
theorem dL_logged_77 : decode cL_logged 77 = .ok (.goto (-62), 3) := by decide +kernel
theorem dL_logged_80 : decode cL_logged 80 = .ok (.aload_n 0, 1) := by decide +kernel
theorem dL_logged_81 : decode cL_logged 81 = .ok (.invokestatic 193, 3) := by decide +kernel
theorem dL_logged_84 : decode cL_logged 84 = .ok (.fstore_n 3, 1) := by decide +kernel
theorem dL_logged_85 : decode cL_logged 85 = .ok (.aload_n 0, 1) := by decide +kernel
theorem dL_logged_86 : decode cL_logged 86 = .ok (.iload_n 1, 1) := by decide +kernel
theorem dL_logged_87 : decode cL_logged 87 = .ok (.invokestatic 199, 3) := by decide +kernel
theorem dL_logged_90 : decode cL_logged 90 = .ok (.iconst (-1), 1) := by decide +kernel
theorem dL_logged_91 : decode cL_logged 91 = .ok (.if_icmp .ne 52, 3) := by decide +kernel
theorem dL_logged_94 : decode cL_logged 94 = .ok (.aload_n 0, 1) := by decide +kernel
theorem dL_logged_95 : decode cL_logged 95 = .ok (.iconst 0, 1) := by decide +kernel
theorem dL_logged_96 : decode cL_logged 96 = .ok (.invokestatic 230, 3) := by decide +kernel
theorem dL_logged_99 : decode cL_logged 99 = .ok (.iconst (-1), 1) := by decide +kernel
theorem dL_logged_100 : decode cL_logged 100 = .ok (.if_icmp .ne 43, 3) := by decide +kernel
theorem dL_logged_103 : decode cL_logged 103 = .ok (.fload_n 3, 1) := by decide +kernel
theorem dL_logged_104 : decode cL_logged 104 = .ok (.ldc 111, 2) := by decide +kernel
theorem dL_logged_106 : decode cL_logged 106 = .ok (.fcmp .l, 1) := by decide +kernel
theorem dL_logged_107 : decode cL_logged 107 = .ok (.ifCond .eq 15, 3) := by decide +kernel
theorem dL_logged_110 : decode cL_logged 110 = .ok (.fload_n 3, 1) := by decide +kernel
theorem dL_logged_111 : decode cL_logged 111 = .ok (.fconst 0, 1) := by decide +kernel
theorem dL_logged_112 : decode cL_logged 112 = .ok (.fcmp .l, 1) := by decide +kernel
theorem dL_logged_113 : decode cL_logged 113 = .ok (.ifCond .lt 30, 3) := by decide +kernel
theorem dL_logged_116 : decode cL_logged 116 = .ok (.fload_n 3, 1) := by decide +kernel
theorem dL_logged_117 : decode cL_logged 117 = .ok (.fconst 1, 1) := by decide +kernel
theorem dL_logged_118 : decode cL_logged 118 = .ok (.fcmp .g, 1) := by decide +kernel
theorem dL_logged_119 : decode cL_logged 119 = .ok (.ifCond .gt 24, 3) := by decide +kernel
theorem dL_logged_122 : decode cL_logged 122 = .ok (.aload_n 0, 1) := by decide +kernel
theorem dL_logged_123 : decode cL_logged 123 = .ok (.invokevirtual 232, 3) := by decide +kernel
theorem dL_logged_126 : decode cL_logged 126 = .ok (.ifCond .eq 17, 3) := by decide +kernel
theorem dL_logged_129 : decode cL_logged 129 = .ok (.aload_n 0, 1) := by decide +kernel
theorem dL_logged_130 : decode cL_logged 130 = .ok (.bipush 9, 2) := by decide +kernel
theorem dL_logged_132 : decode cL_logged 132 = .ok (.invokestatic 203, 3) := by decide +kernel
theorem dL_logged_135 : decode cL_logged 135 = .ok (.iconst (-1), 1) := by decide +kernel
theorem dL_logged_136 : decode cL_logged 136 = .ok (.if_icmp .ne 7, 3) := by decide +kernel
theorem dL_logged_139 : decode cL_logged 139 = .ok (.iconst 1, 1) := by decide +kernel
theorem dL_logged_140 : decode cL_logged 140 = .ok (.goto 4, 3) := by decide +kernel
theorem dL_logged_143 : decode cL_logged 143 = .ok (.iconst 0, 1) := by decide +kernel
theorem dL_logged_144 : decode cL_logged 144 = .ok (.ireturn, 1) := by decide +kernel
theorem dL_dated_0 : decode cL_dated 0 = .ok (.aload_n 0, 1) := by decide +kernel
theorem dL_dated_1 : decode cL_dated 1 = .ok (.aload_n 0, 1) := by decide +kernel
theorem dL_dated_2 : decode cL_dated 2 = .ok (.invokevirtual 176, 3) := by decide +kernel
theorem dL_dated_5 : decode cL_dated 5 = .ok (.aload_n 0, 1) := by decide +kernel
theorem dL_dated_6 : decode cL_dated 6 = .ok (.invokevirtual 179, 3) := by decide +kernel
theorem dL_dated_9 : decode cL_dated 9 = .ok (.aload_n 0, 1) := by decide +kernel
theorem dL_dated_10 : decode cL_dated 10 = .ok (.invokevirtual 182, 3) := by decide +kernel
theorem dL_dated_13 : decode cL_dated 13 = .ok (.invokestatic 236, 3) := by decide +kernel
theorem dL_dated_16 : decode cL_dated 16 = .ok (.lstore_n 2, 1) := by decide +kernel
theorem dL_dated_17 : decode cL_dated 17 = .ok (.aload_n 0, 1) := by decide +kernel
theorem dL_dated_18 : decode cL_dated 18 = .ok (.invokevirtual 173, 3) := by decide +kernel
theorem dL_dated_21 : decode cL_dated 21 = .ok (.istore 4, 2) := by decide +kernel
theorem dL_dated_23 : decode cL_dated 23 = .ok (.iconst 1, 1) := by decide +kernel
theorem dL_dated_24 : decode cL_dated 24 = .ok (.aload_n 1, 1) := by decide +kernel
theorem dL_dated_25 : decode cL_dated 25 = .ok (.sipush 3000, 3) := by decide +kernel
theorem dL_dated_28 : decode cL_dated 28 = .ok (.invokevirtual 112, 3) := by decide +kernel
theorem dL_dated_31 : decode cL_dated 31 = .ok (.iadd, 1) := by decide +kernel
theorem dL_dated_32 : decode cL_dated 32 = .ok (.istore 5, 2) := by decide +kernel
theorem dL_dated_34 : decode cL_dated 34 = .ok (.iconst 1, 1) := by decide +kernel
theorem dL_dated_35 : decode cL_dated 35 = .ok (.aload_n 1, 1) := by decide +kernel
theorem dL_dated_36 : decode cL_dated 36 = .ok (.bipush 12, 2) := by decide +kernel
theorem dL_dated_38 : decode cL_dated 38 = .ok (.invokevirtual 112, 3) := by decide +kernel
theorem dL_dated_41 : decode cL_dated 41 = .ok (.iadd, 1) := by decide +kernel
theorem dL_dated_42 : decode cL_dated 42 = .ok (.istore 6, 2) := by decide +kernel
theorem dL_dated_44 : decode cL_dated 44 = .ok (.iconst 1, 1) := by decide +kernel
theorem dL_dated_45 : decode cL_dated 45 = .ok (.aload_n 1, 1) := by decide +kernel
theorem dL_dated_46 : decode cL_dated 46 = .ok (.bipush 31, 2) := by decide +kernel
theorem dL_dated_48 : decode cL_dated 48 = .ok (.invokevirtual 112, 3) := by decide +kernel
theorem dL_dated_51 : decode cL_dated 51 = .ok (.iadd, 1) := by decide +kernel
theorem dL_dated_52 : decode cL_dated 52 = .ok (.istore 7, 2) := by decide +kernel
theorem dL_dated_54 : decode cL_dated 54 = .ok (.aload_n 0, 1) := by decide +kernel
theorem dL_dated_55 : decode cL_dated 55 = .ok (.iload 5, 2) := by decide +kernel
theorem dL_dated_57 : decode cL_dated 57 = .ok (.iload 6, 2) := by decide +kernel
theorem dL_dated_59 : decode cL_dated 59 = .ok (.iload 7, 2) := by decide +kernel
theorem dL_dated_61 : decode cL_dated 61 = .ok (.invokestatic 236, 3) := by decide +kernel
theorem dL_dated_64 : decode cL_dated 64 = .ok (.lstore 8, 2) := by decide +kernel
theorem dL_dated_66 : decode cL_dated 66 = .ok (.aload_n 0, 1) := by decide +kernel
theorem dL_dated_67 : decode cL_dated 67 = .ok (.invokevirtual 239, 3) := by decide +kernel
theorem dL_dated_70 : decode cL_dated 70 = .ok (.iload 4, 2) := by decide +kernel
theorem dL_dated_72 : decode cL_dated 72 = .ok (.sipush 3600, 3) := by decide +kernel
theorem dL_dated_75 : decode cL_dated 75 = .ok (.idiv, 1) := by decide +kernel
theorem dL_dated_76 : decode cL_dated 76 = .ok (.bipush 24, 2) := by decide +kernel
theorem dL_dated_78 : decode cL_dated 78 = .ok (.irem, 1) := by decide +kernel
theorem dL_dated_79 : decode cL_dated 79 = .ok (.if_icmp .ne 75, 3) := by decide +kernel
theorem dL_dated_82 : decode cL_dated 82 = .ok (.aload_n 0, 1) := by decide +kernel
theorem dL_dated_83 : decode cL_dated 83 = .ok (.invokevirtual 242, 3) := by decide +kernel
theorem dL_dated_86 : decode cL_dated 86 = .ok (.iload 4, 2) := by decide +kernel
theorem dL_dated_88 : decode cL_dated 88 = .ok (.bipush 60, 2) := by decide +kernel
theorem dL_dated_90 : decode cL_dated 90 = .ok (.idiv, 1) := by decide +kernel
theorem dL_dated_91 : decode cL_dated 91 = .ok (.bipush 60, 2) := by decide +kernel
theorem dL_dated_93 : decode cL_dated 93 = .ok (.irem, 1) := by decide +kernel
theorem dL_dated_94 : decode cL_dated 94 = .ok (.if_icmp .ne 60, 3) := by decide +kernel
theorem dL_dated_97 : decode cL_dated 97 = .ok (.lload_n 2, 1) := by decide +kernel
theorem dL_dated_98 : decode cL_dated 98 = .ok (.lconst 1, 1) := by decide +kernel
theorem dL_dated_99 : decode cL_dated 99 = .ok (.lsub, 1) := by decide +kernel
theorem dL_dated_100 : decode cL_dated 100 = .ok (.ldc2_w 245, 3) := by decide +kernel
theorem dL_dated_103 : decode cL_dated 103 = .ok (.lrem, 1) := by decide +kernel
theorem dL_dated_104 : decode cL_dated 104 = .ok (.aload_n 0, 1) := by decide +kernel
theorem dL_dated_105 : decode cL_dated 105 = .ok (.invokevirtual 185, 3) := by decide +kernel
theorem dL_dated_108 : decode cL_dated 108 = .ok (.i2l, 1) := by decide +kernel
theorem dL_dated_109 : decode cL_dated 109 = .ok (.lcmp, 1) := by decide +kernel
theorem dL_dated_110 : decode cL_dated 110 = .ok (.ifCond .ne 44, 3) := by decide +kernel
theorem dL_dated_113 : decode cL_dated 113 = .ok (.lload_n 2, 1) := by decide +kernel
theorem dL_dated_114 : decode cL_dated 114 = .ok (.aload_n 0, 1) := by decide +kernel
theorem dL_dated_115 : decode cL_dated 115 = .ok (.aload_n 0, 1) := by decide +kernel
theorem dL_dated_116 : decode cL_dated 116 = .ok (.invokevirtual 176, 3) := by decide +kernel
theorem dL_dated_119 : decode cL_dated 119 = .ok (.aload_n 0, 1) := by decide +kernel
theorem dL_dated_120 : decode cL_dated 120 = .ok (.invokevirtual 179, 3) := by decide +kernel
theorem dL_dated_123 : decode cL_dated 123 = .ok (.aload_n 0, 1) := by decide +kernel
theorem dL_dated_124 : decode cL_dated 124 = .ok (.invokevirtual 182, 3) := by decide +kernel
theorem dL_dated_127 : decode cL_dated 127 = .ok (.invokestatic 247, 3) := by decide +kernel
theorem dL_dated_130 : decode cL_dated 130 = .ok (.lcmp, 1) := by decide +kernel
theorem dL_dated_131 : decode cL_dated 131 = .ok (.ifCond .ne 23, 3) := by decide +kernel
theorem dL_dated_134 : decode cL_dated 134 = .ok (.lload 8, 2) := by decide +kernel
theorem dL_dated_136 : decode cL_dated 136 = .ok (.aload_n 0, 1) := by decide +kernel
theorem dL_dated_137 : decode cL_dated 137 = .ok (.iload 5, 2) := by decide +kernel
theorem dL_dated_139 : decode cL_dated 139 = .ok (.iload 6, 2) := by decide +kernel
theorem dL_dated_141 : decode cL_dated 141 = .ok (.iload 7, 2) := by decide +kernel
theorem dL_dated_143 : decode cL_dated 143 = .ok (.invokestatic 247, 3) := by decide +kernel
theorem dL_dated_146 : decode cL_dated 146 = .ok (.lcmp, 1) := by decide +kernel
theorem dL_dated_147 : decode cL_dated 147 = .ok (.ifCond .ne 7, 3) := by decide +kernel
theorem dL_dated_150 : decode cL_dated 150 = .ok (.iconst 1, 1) := by decide +kernel
theorem dL_dated_151 : decode cL_dated 151 = .ok (.goto 4, 3) := by decide +kernel
theorem dL_dated_154 : decode cL_dated 154 = .ok (.iconst 0, 1) := by decide +kernel
theorem dL_dated_155 : decode cL_dated 155 = .ok (.istore 10, 2) := by decide +kernel
theorem dL_dated_157 : decode cL_dated 157 = .ok (.iload 10, 2) := by decide +kernel
theorem dL_dated_159 : decode cL_dated 159 = .ok (.aload_n 0, 1) := by decide +kernel
theorem dL_dated_160 : decode cL_dated 160 = .ok (.iload 5, 2) := by decide +kernel
theorem dL_dated_162 : decode cL_dated 162 = .ok (.bipush 12, 2) := by decide +kernel
theorem dL_dated_164 : decode cL_dated 164 = .ok (.bipush 31, 2) := by decide +kernel
theorem dL_dated_166 : decode cL_dated 166 = .ok (.invokestatic 236, 3) := by decide +kernel
theorem dL_dated_169 : decode cL_dated 169 = .ok (.aload_n 0, 1) := by decide +kernel
theorem dL_dated_170 : decode cL_dated 170 = .ok (.iload 5, 2) := by decide +kernel
theorem dL_dated_172 : decode cL_dated 172 = .ok (.iconst 1, 1) := by decide +kernel
theorem dL_dated_173 : decode cL_dated 173 = .ok (.iconst 1, 1) := by decide +kernel
theorem dL_dated_174 : decode cL_dated 174 = .ok (.invokestatic 236, 3) := by decide +kernel
theorem dL_dated_177 : decode cL_dated 177 = .ok (.lsub, 1) := by decide +kernel
theorem dL_dated_178 : decode cL_dated 178 = .ok (.aload_n 0, 1) := by decide +kernel
theorem dL_dated_179 : decode cL_dated 179 = .ok (.iload 5, 2) := by decide +kernel
theorem dL_dated_181 : decode cL_dated 181 = .ok (.invokestatic 249, 3) := by decide +kernel
theorem dL_dated_184 : decode cL_dated 184 = .ok (.iconst 1, 1) := by decide +kernel
theorem dL_dated_185 : decode cL_dated 185 = .ok (.if_icmp .ne 9, 3) := by decide +kernel
theorem dL_dated_188 : decode cL_dated 188 = .ok (.ldc2_w 251, 3) := by decide +kernel
theorem dL_dated_191 : decode cL_dated 191 = .ok (.goto 6, 3) := by decide +kernel
theorem dL_dated_194 : decode cL_dated 194 = .ok (.ldc2_w 253, 3) := by decide +kernel
theorem dL_dated_197 : decode cL_dated 197 = .ok (.lcmp, 1) := by decide +kernel
theorem dL_dated_198 : decode cL_dated 198 = .ok (.ifCond .ne 90, 3) := by decide +kernel
theorem dL_dated_201 : decode cL_dated 201 = .ok (.lload 8, 2) := by decide +kernel
theorem dL_dated_203 : decode cL_dated 203 = .ok (.lconst 0, 1) := by decide +kernel
theorem dL_dated_204 : decode cL_dated 204 = .ok (.lcmp, 1) := by decide +kernel
theorem dL_dated_205 : decode cL_dated 205 = .ok (.ifCond .le 7, 3) := by decide +kernel
theorem dL_dated_208 : decode cL_dated 208 = .ok (.iconst 1, 1) := by decide +kernel
theorem dL_dated_209 : decode cL_dated 209 = .ok (.goto 4, 3) := by decide +kernel
theorem dL_dated_212 : decode cL_dated 212 = .ok (.iconst 0, 1) := by decide +kernel
theorem dL_dated_213 : decode cL_dated 213 = .ok (.iload 7, 2) := by decide +kernel
theorem dL_dated_215 : decode cL_dated 215 = .ok (.bipush 28, 2) := by decide +kernel
theorem dL_dated_217 : decode cL_dated 217 = .ok (.if_icmp .le 18, 3) := by decide +kernel
theorem dL_dated_220 : decode cL_dated 220 = .ok (.aload_n 0, 1) := by decide +kernel
theorem dL_dated_221 : decode cL_dated 221 = .ok (.iload 5, 2) := by decide +kernel
theorem dL_dated_223 : decode cL_dated 223 = .ok (.iload 6, 2) := by decide +kernel
theorem dL_dated_225 : decode cL_dated 225 = .ok (.iload 7, 2) := by decide +kernel
theorem dL_dated_227 : decode cL_dated 227 = .ok (.invokestatic 236, 3) := by decide +kernel
theorem dL_dated_230 : decode cL_dated 230 = .ok (.lconst 0, 1) := by decide +kernel
theorem dL_dated_231 : decode cL_dated 231 = .ok (.lcmp, 1) := by decide +kernel
theorem dL_dated_232 : decode cL_dated 232 = .ok (.ifCond .le 7, 3) := by decide +kernel
theorem dL_dated_235 : decode cL_dated 235 = .ok (.iconst 1, 1) := by decide +kernel
theorem dL_dated_236 : decode cL_dated 236 = .ok (.goto 4, 3) := by decide +kernel
theorem dL_dated_239 : decode cL_dated 239 = .ok (.iconst 0, 1) := by decide +kernel
theorem dL_dated_240 : decode cL_dated 240 = .ok (.if_icmp .ne 48, 3) := by decide +kernel
theorem dL_dated_243 : decode cL_dated 243 = .ok (.aload_n 0, 1) := by decide +kernel
theorem dL_dated_244 : decode cL_dated 244 = .ok (.sipush 3001, 3) := by decide +kernel
theorem dL_dated_247 : decode cL_dated 247 = .ok (.iconst 1, 1) := by decide +kernel
theorem dL_dated_248 : decode cL_dated 248 = .ok (.iconst 1, 1) := by decide +kernel
theorem dL_dated_249 : decode cL_dated 249 = .ok (.invokestatic 236, 3) := by decide +kernel
theorem dL_dated_252 : decode cL_dated 252 = .ok (.ldc2_w 63, 3) := by decide +kernel
theorem dL_dated_255 : decode cL_dated 255 = .ok (.lcmp, 1) := by decide +kernel
theorem dL_dated_256 : decode cL_dated 256 = .ok (.ifCond .ne 32, 3) := by decide +kernel
theorem dL_dated_259 : decode cL_dated 259 = .ok (.aload_n 0, 1) := by decide +kernel
theorem dL_dated_260 : decode cL_dated 260 = .ok (.iload 5, 2) := by decide +kernel
theorem dL_dated_262 : decode cL_dated 262 = .ok (.bipush 13, 2) := by decide +kernel
theorem dL_dated_264 : decode cL_dated 264 = .ok (.iconst 1, 1) := by decide +kernel
theorem dL_dated_265 : decode cL_dated 265 = .ok (.invokestatic 236, 3) := by decide +kernel
theorem dL_dated_268 : decode cL_dated 268 = .ok (.ldc2_w 63, 3) := by decide +kernel
theorem dL_dated_271 : decode cL_dated 271 = .ok (.lcmp, 1) := by decide +kernel
theorem dL_dated_272 : decode cL_dated 272 = .ok (.ifCond .ne 16, 3) := by decide +kernel
theorem dL_dated_275 : decode cL_dated 275 = .ok (.aload_n 0, 1) := by decide +kernel
theorem dL_dated_276 : decode cL_dated 276 = .ok (.iconst 0, 1) := by decide +kernel
theorem dL_dated_277 : decode cL_dated 277 = .ok (.invokestatic 249, 3) := by decide +kernel
theorem dL_dated_280 : decode cL_dated 280 = .ok (.iconst (-1), 1) := by decide +kernel
theorem dL_dated_281 : decode cL_dated 281 = .ok (.if_icmp .ne 7, 3) := by decide +kernel
theorem dL_dated_284 : decode cL_dated 284 = .ok (.iconst 1, 1) := by decide +kernel
theorem dL_dated_285 : decode cL_dated 285 = .ok (.goto 4, 3) := by decide +kernel
theorem dL_dated_288 : decode cL_dated 288 = .ok (.iconst 0, 1) := by decide +kernel
theorem dL_dated_289 : decode cL_dated 289 = .ok (.iand, 1) := by decide +kernel
theorem dL_dated_290 : decode cL_dated 290 = .ok (.istore 10, 2) := by decide +kernel
theorem dL_dated_292 : decode cL_dated 292 = .ok (.iload 10, 2) := by decide +kernel
theorem dL_dated_294 : decode cL_dated 294 = .ok (.ireturn, 1) := by decide +kernel
theorem dL_pinned_0 : decode cL_pinned 0 = .ok (.aload_n 0, 1) := by decide +kernel
theorem dL_pinned_1 : decode cL_pinned 1 = .ok (.iload_n 1, 1) := by decide +kernel
theorem dL_pinned_2 : decode cL_pinned 2 = .ok (.invokestatic 191, 3) := by decide +kernel
theorem dL_pinned_5 : decode cL_pinned 5 = .ok (.istore_n 2, 1) := by decide +kernel
theorem dL_pinned_6 : decode cL_pinned 6 = .ok (.iconst 0, 1) := by decide +kernel
theorem dL_pinned_7 : decode cL_pinned 7 = .ok (.istore_n 3, 1) := by decide +kernel
theorem dL_pinned_8 : decode cL_pinned 8 = .ok (.iload_n 3, 1) := by decide +kernel
theorem dL_pinned_9 : decode cL_pinned 9 = .ok (.iload_n 2, 1) := by decide +kernel
theorem dL_pinned_10 : decode cL_pinned 10 = .ok (.if_icmp .ge 32, 3) := by decide +kernel
theorem dL_pinned_13 : decode cL_pinned 13 = .ok (.aload_n 0, 1) := by decide +kernel
theorem dL_pinned_14 : decode cL_pinned 14 = .ok (.iload_n 1, 1) := by decide +kernel
theorem dL_pinned_15 : decode cL_pinned 15 = .ok (.iload_n 3, 1) := by decide +kernel
theorem dL_pinned_16 : decode cL_pinned 16 = .ok (.invokestatic 209, 3) := by decide +kernel
theorem dL_pinned_19 : decode cL_pinned 19 = .ok (.istore 4, 2) := by decide +kernel
theorem dL_pinned_21 : decode cL_pinned 21 = .ok (.iload 4, 2) := by decide +kernel
theorem dL_pinned_23 : decode cL_pinned 23 = .ok (.iconst 1, 1) := by decide +kernel
theorem dL_pinned_24 : decode cL_pinned 24 = .ok (.if_icmp .lt 10, 3) := by decide +kernel
theorem dL_pinned_27 : decode cL_pinned 27 = .ok (.iload 4, 2) := by decide +kernel
theorem dL_pinned_29 : decode cL_pinned 29 = .ok (.bipush 8, 2) := by decide +kernel
theorem dL_pinned_31 : decode cL_pinned 31 = .ok (.if_icmp .le 5, 3) := by decide +kernel
theorem dL_pinned_34 : decode cL_pinned 34 = .ok (.iconst 0, 1) := by decide +kernel
theorem dL_pinned_35 : decode cL_pinned 35 = .ok (.ireturn, 1) := by decide +kernel
theorem dL_pinned_36 : decode cL_pinned 36 = .ok (.iinc 3 1, 3) := by decide +kernel
theorem dL_pinned_39 : decode cL_pinned 39 = .ok (.goto (-31), 3) := by decide +kernel
theorem dL_pinned_42 : decode cL_pinned 42 = .ok (.iload_n 2, 1) := by decide +kernel
theorem dL_pinned_43 : decode cL_pinned 43 = .ok (.ifCond .ge 21, 3) := by decide +kernel
theorem dL_pinned_46 : decode cL_pinned 46 = .ok (.aload_n 0, 1) := by decide +kernel
theorem dL_pinned_47 : decode cL_pinned 47 = .ok (.iload_n 1, 1) := by decide +kernel
theorem dL_pinned_48 : decode cL_pinned 48 = .ok (.iconst 0, 1) := by decide +kernel
theorem dL_pinned_49 : decode cL_pinned 49 = .ok (.invokestatic 209, 3) := by decide +kernel
theorem dL_pinned_52 : decode cL_pinned 52 = .ok (.iconst (-1), 1) := by decide +kernel
theorem dL_pinned_53 : decode cL_pinned 53 = .ok (.if_icmp .ne 7, 3) := by decide +kernel
theorem dL_pinned_56 : decode cL_pinned 56 = .ok (.iconst 1, 1) := by decide +kernel
theorem dL_pinned_57 : decode cL_pinned 57 = .ok (.goto 30, 3) := by decide +kernel
theorem dL_pinned_60 : decode cL_pinned 60 = .ok (.iconst 0, 1) := by decide +kernel
theorem dL_pinned_61 : decode cL_pinned 61 = .ok (.goto 26, 3) := by decide +kernel
theorem dL_pinned_64 : decode cL_pinned 64 = .ok (.aload_n 0, 1) := by decide +kernel
theorem dL_pinned_65 : decode cL_pinned 65 = .ok (.iload_n 1, 1) := by decide +kernel
theorem dL_pinned_66 : decode cL_pinned 66 = .ok (.iload_n 2, 1) := by decide +kernel
theorem dL_pinned_67 : decode cL_pinned 67 = .ok (.invokestatic 209, 3) := by decide +kernel
theorem dL_pinned_70 : decode cL_pinned 70 = .ok (.bipush (-2), 2) := by decide +kernel
theorem dL_pinned_72 : decode cL_pinned 72 = .ok (.if_icmp .ne 14, 3) := by decide +kernel
theorem dL_pinned_75 : decode cL_pinned 75 = .ok (.iload_n 2, 1) := by decide +kernel
theorem dL_pinned_76 : decode cL_pinned 76 = .ok (.sipush 256, 3) := by decide +kernel
theorem dL_pinned_79 : decode cL_pinned 79 = .ok (.if_icmp .gt 7, 3) := by decide +kernel
theorem dL_pinned_82 : decode cL_pinned 82 = .ok (.iconst 1, 1) := by decide +kernel
theorem dL_pinned_83 : decode cL_pinned 83 = .ok (.goto 4, 3) := by decide +kernel
theorem dL_pinned_86 : decode cL_pinned 86 = .ok (.iconst 0, 1) := by decide +kernel
theorem dL_pinned_87 : decode cL_pinned 87 = .ok (.ireturn, 1) := by decide +kernel
