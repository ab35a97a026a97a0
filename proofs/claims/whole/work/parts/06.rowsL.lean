set_option maxRecDepth 20000 in
theorem ggL_addWheel_X8_addWheel : GoodIn wsL_addWheel wsX8_addWheel := goodIn_ca (goodIn_ca (goodIn_r _ [7, 8, 9, 10, 11, 12, 13, 14, 15, 6, 16, 17, 18, 19, 20, 21, 22, 23, 24, 25, 26, 27, 28, 29, 30, 31, 32, 33, 34, 35, 36, 37, 38, 39, 40, 41, 42, 43, 44, 45, 46, 47, 48, 49, 50, 51, 52, 53, 54, 55, 56, 57, 58, 59, 60, 61, 62, 63, 64, 65, 66, 67, 68, 69, 70, 71, 72, 73, 74, 75, 76, 77, 78, 79, 80, 81, 82, 83, 84, 85, 86, 87, 88, 89, 90, 91, 92, 93, 94, 95, 96, 97, 98, 99, 100, 101, 102, 103, 104, 105, 106, 107, 108, 109, 110, 111, 112, 113, 114, 115, 116, 117, 118, 119, 120, 121, 122, 123, 124, 125, 126, 127, 128, 129, 130, 131, 132, 133, 134, 135, 136, 137, 138, 139, 140, 141, 142, 143, 144, 145, 146, 147, 148, 149, 150, 151, 152, 153, 154, 155, 156] (by decide +kernel) (by decide +kernel)) (goodIn_sub (fun _ h => List.mem_cons_of_mem _ (List.mem_append_left _ (List.mem_append_right _ h))) (by decide +kernel))) (goodIn_sub (fun _ h => List.mem_cons_of_mem _ (List.mem_append_right _ h)) (by decide +kernel))
set_option maxRecDepth 20000 in
theorem gL_addWheel_X8_addWheel : GoodIn wsL_addWheel (wsV RL 7 RX8 yX8_addWheel wsX8_addWheel) := goodIn_app (goodIn_of _ (by decide +kernel)) ggL_addWheel_X8_addWheel
theorem dL_addWheel_0 : decode cL_addWheel 0 = .ok (.aload_n 3, 1) := by decide +kernel
theorem dL_addWheel_1 : decode cL_addWheel 1 = .ok (.iconst 0, 1) := by decide +kernel
theorem dL_addWheel_2 : decode cL_addWheel 2 = .ok (.aload_n 0, 1) := by decide +kernel
theorem dL_addWheel_3 : decode cL_addWheel 3 = .ok (.iload_n 1, 1) := by decide +kernel
theorem dL_addWheel_4 : decode cL_addWheel 4 = .ok (.iload_n 2, 1) := by decide +kernel
theorem dL_addWheel_5 : decode cL_addWheel 5 = .ok (.invokevirtual 7, 3) := by decide +kernel
theorem dL_addWheel_8 : decode cL_addWheel 8 = .ok (.i2l, 1) := by decide +kernel
theorem dL_addWheel_9 : decode cL_addWheel 9 = .ok (.lastore, 1) := by decide +kernel
theorem dL_addWheel_10 : decode cL_addWheel 10 = .ok (.goto 11, 3) := by decide +kernel
theorem dL_addWheel_13 : decode cL_addWheel 13 = .ok (.astore 4, 2) := by decide +kernel
theorem dL_addWheel_15 : decode cL_addWheel 15 = .ok (.iconst 1, 1) := by decide +kernel
theorem dL_addWheel_16 : decode cL_addWheel 16 = .ok (.ireturn, 1) := by decide +kernel
theorem dL_addWheel_17 : decode cL_addWheel 17 = .ok (.astore 4, 2) := by decide +kernel
theorem dL_addWheel_19 : decode cL_addWheel 19 = .ok (.iconst 2, 1) := by decide +kernel
theorem dL_addWheel_20 : decode cL_addWheel 20 = .ok (.ireturn, 1) := by decide +kernel
theorem dL_addWheel_21 : decode cL_addWheel 21 = .ok (.iconst 0, 1) := by decide +kernel
theorem dL_addWheel_22 : decode cL_addWheel 22 = .ok (.ireturn, 1) := by decide +kernel
set_option maxRecDepth 20000 in
theorem ggL_moved_X8_moved : GoodIn wsL_moved wsX8_moved := goodIn_ca (goodIn_r _ [6, 7, 8, 9, 10, 11, 5, 12, 13, 14, 15, 16, 17, 18, 19, 20, 21, 22, 23, 24, 25, 26, 27, 28, 29, 30, 31, 32, 33, 34, 35, 36, 37, 38, 39, 40, 41, 42, 43, 44, 45, 46, 47, 48, 49, 50, 51, 52, 53, 54, 55, 56, 57, 58, 59, 60, 61, 62, 63, 64, 65, 66, 67, 68, 69, 70, 71, 72, 73, 74, 75, 76, 77, 78, 79, 80, 81, 82, 83] (by decide +kernel) (by decide +kernel)) (goodIn_sub (fun _ h => List.mem_cons_of_mem _ (List.mem_append_right _ h)) (by decide +kernel))
set_option maxRecDepth 20000 in
theorem gL_moved_X8_moved : GoodIn wsL_moved (wsV RL 17 RX8 yX8_moved wsX8_moved) := goodIn_app (goodIn_of _ (by decide +kernel)) ggL_moved_X8_moved
theorem dL_moved_0 : decode cL_moved 0 = .ok (.aload_n 2, 1) := by decide +kernel
theorem dL_moved_1 : decode cL_moved 1 = .ok (.iconst 0, 1) := by decide +kernel
theorem dL_moved_2 : decode cL_moved 2 = .ok (.aload_n 0, 1) := by decide +kernel
theorem dL_moved_3 : decode cL_moved 3 = .ok (.iload_n 1, 1) := by decide +kernel
theorem dL_moved_4 : decode cL_moved 4 = .ok (.invokevirtual 17, 3) := by decide +kernel
theorem dL_moved_7 : decode cL_moved 7 = .ok (.i2l, 1) := by decide +kernel
theorem dL_moved_8 : decode cL_moved 8 = .ok (.lastore, 1) := by decide +kernel
theorem dL_moved_9 : decode cL_moved 9 = .ok (.goto 6, 3) := by decide +kernel
theorem dL_moved_12 : decode cL_moved 12 = .ok (.astore_n 3, 1) := by decide +kernel
theorem dL_moved_13 : decode cL_moved 13 = .ok (.iconst 1, 1) := by decide +kernel
theorem dL_moved_14 : decode cL_moved 14 = .ok (.ireturn, 1) := by decide +kernel
theorem dL_moved_15 : decode cL_moved 15 = .ok (.iconst 0, 1) := by decide +kernel
theorem dL_moved_16 : decode cL_moved 16 = .ok (.ireturn, 1) := by decide +kernel
set_option maxRecDepth 20000 in
theorem ggL_wholeTurns_X8_wholeTurns : GoodIn wsL_wholeTurns wsX8_wholeTurns := goodIn_ca (goodIn_r _ [6, 7, 8, 9, 10, 11, 5, 12, 13, 14, 15, 16, 17, 18, 19, 20, 21, 22, 23, 24, 25, 26, 27, 28, 29, 30, 31, 32, 33, 34, 35, 36, 37, 38, 39, 40, 41, 42, 43, 44, 45, 46, 47, 48, 49, 50, 51, 52, 53, 54, 55, 56, 57, 58, 59, 60, 61, 62, 63, 64, 65, 66, 67, 68, 69, 70, 71, 72, 73, 74, 75, 76, 77, 78, 79, 80, 81, 82, 83, 84, 85, 86, 87, 88, 89, 90, 91, 92, 93, 94, 95, 96] (by decide +kernel) (by decide +kernel)) (goodIn_sub (fun _ h => List.mem_cons_of_mem _ (List.mem_append_right _ h)) (by decide +kernel))
set_option maxRecDepth 20000 in
theorem gL_wholeTurns_X8_wholeTurns : GoodIn wsL_wholeTurns (wsV RL 23 RX8 yX8_wholeTurns wsX8_wholeTurns) := goodIn_app (goodIn_of _ (by decide +kernel)) ggL_wholeTurns_X8_wholeTurns
theorem dL_wholeTurns_0 : decode cL_wholeTurns 0 = .ok (.aload_n 2, 1) := by decide +kernel
theorem dL_wholeTurns_1 : decode cL_wholeTurns 1 = .ok (.iconst 0, 1) := by decide +kernel
theorem dL_wholeTurns_2 : decode cL_wholeTurns 2 = .ok (.aload_n 0, 1) := by decide +kernel
theorem dL_wholeTurns_3 : decode cL_wholeTurns 3 = .ok (.iload_n 1, 1) := by decide +kernel
theorem dL_wholeTurns_4 : decode cL_wholeTurns 4 = .ok (.invokevirtual 23, 3) := by decide +kernel
theorem dL_wholeTurns_7 : decode cL_wholeTurns 7 = .ok (.i2l, 1) := by decide +kernel
theorem dL_wholeTurns_8 : decode cL_wholeTurns 8 = .ok (.lastore, 1) := by decide +kernel
theorem dL_wholeTurns_9 : decode cL_wholeTurns 9 = .ok (.goto 6, 3) := by decide +kernel
theorem dL_wholeTurns_12 : decode cL_wholeTurns 12 = .ok (.astore_n 3, 1) := by decide +kernel
theorem dL_wholeTurns_13 : decode cL_wholeTurns 13 = .ok (.iconst 1, 1) := by decide +kernel
theorem dL_wholeTurns_14 : decode cL_wholeTurns 14 = .ok (.ireturn, 1) := by decide +kernel
theorem dL_wholeTurns_15 : decode cL_wholeTurns 15 = .ok (.iconst 0, 1) := by decide +kernel
theorem dL_wholeTurns_16 : decode cL_wholeTurns 16 = .ok (.ireturn, 1) := by decide +kernel
set_option maxRecDepth 20000 in
theorem ggL_beatsForTurn_X8_beatsForTurn : GoodIn wsL_beatsForTurn wsX8_beatsForTurn := goodIn_ca (goodIn_r _ [6, 7, 8, 9, 10, 5, 11, 12, 13, 14, 15, 16, 17, 18, 19, 20, 21, 22, 23, 24, 25, 26, 27, 28, 29, 30, 31, 32, 33, 34, 35, 36, 37, 38, 39, 40, 41, 42, 43, 44, 45, 46, 47, 48, 49, 50, 51, 52, 53, 54, 55, 56, 57, 58, 59, 60, 61, 62, 63, 64, 65, 66, 67, 68, 69, 70, 71, 72, 73, 74, 75, 76, 77, 78, 79] (by decide +kernel) (by decide +kernel)) (goodIn_sub (fun _ h => List.mem_cons_of_mem _ (List.mem_append_right _ h)) (by decide +kernel))
set_option maxRecDepth 20000 in
theorem gL_beatsForTurn_X8_beatsForTurn : GoodIn wsL_beatsForTurn (wsV RL 26 RX8 yX8_beatsForTurn wsX8_beatsForTurn) := goodIn_app (goodIn_of _ (by decide +kernel)) ggL_beatsForTurn_X8_beatsForTurn
theorem dL_beatsForTurn_0 : decode cL_beatsForTurn 0 = .ok (.aload_n 2, 1) := by decide +kernel
theorem dL_beatsForTurn_1 : decode cL_beatsForTurn 1 = .ok (.iconst 0, 1) := by decide +kernel
theorem dL_beatsForTurn_2 : decode cL_beatsForTurn 2 = .ok (.aload_n 0, 1) := by decide +kernel
theorem dL_beatsForTurn_3 : decode cL_beatsForTurn 3 = .ok (.iload_n 1, 1) := by decide +kernel
theorem dL_beatsForTurn_4 : decode cL_beatsForTurn 4 = .ok (.invokevirtual 26, 3) := by decide +kernel
theorem dL_beatsForTurn_7 : decode cL_beatsForTurn 7 = .ok (.dastore, 1) := by decide +kernel
theorem dL_beatsForTurn_8 : decode cL_beatsForTurn 8 = .ok (.goto 6, 3) := by decide +kernel
theorem dL_beatsForTurn_11 : decode cL_beatsForTurn 11 = .ok (.astore_n 3, 1) := by decide +kernel
theorem dL_beatsForTurn_12 : decode cL_beatsForTurn 12 = .ok (.iconst 1, 1) := by decide +kernel
theorem dL_beatsForTurn_13 : decode cL_beatsForTurn 13 = .ok (.ireturn, 1) := by decide +kernel
theorem dL_beatsForTurn_14 : decode cL_beatsForTurn 14 = .ok (.iconst 0, 1) := by decide +kernel
theorem dL_beatsForTurn_15 : decode cL_beatsForTurn 15 = .ok (.ireturn, 1) := by decide +kernel
set_option maxRecDepth 20000 in
theorem ggL_movedAhead_X8_movedAhead : GoodIn wsL_movedAhead wsX8_movedAhead := goodIn_ca (goodIn_ca (goodIn_r _ [7, 8, 9, 10, 11, 12, 6, 13, 14, 15, 16, 17, 18, 19, 20, 21, 22, 23, 24, 25, 26, 27, 28, 29, 30, 31, 32, 33, 34, 35, 36, 37, 38, 39, 40, 41, 42, 43, 44, 45, 46, 47, 48, 49, 50, 51, 52, 53, 54, 55, 56, 57, 58, 59, 60, 61, 62, 63, 64, 65, 66, 67, 68, 69, 70, 71, 72, 73, 74, 75, 76, 77, 78, 79, 80, 81, 82, 83, 84, 85, 86, 87, 88, 89, 90] (by decide +kernel) (by decide +kernel)) (goodIn_sub (fun _ h => List.mem_cons_of_mem _ (List.mem_append_left _ (List.mem_append_right _ h))) (by decide +kernel))) (goodIn_sub (fun _ h => List.mem_cons_of_mem _ (List.mem_append_right _ h)) (by decide +kernel))
set_option maxRecDepth 20000 in
theorem gL_movedAhead_X8_movedAhead : GoodIn wsL_movedAhead (wsV RL 30 RX8 yX8_movedAhead wsX8_movedAhead) := goodIn_app (goodIn_of _ (by decide +kernel)) ggL_movedAhead_X8_movedAhead
theorem dL_movedAhead_0 : decode cL_movedAhead 0 = .ok (.aload_n 3, 1) := by decide +kernel
theorem dL_movedAhead_1 : decode cL_movedAhead 1 = .ok (.iconst 0, 1) := by decide +kernel
theorem dL_movedAhead_2 : decode cL_movedAhead 2 = .ok (.aload_n 0, 1) := by decide +kernel
theorem dL_movedAhead_3 : decode cL_movedAhead 3 = .ok (.iload_n 1, 1) := by decide +kernel
theorem dL_movedAhead_4 : decode cL_movedAhead 4 = .ok (.iload_n 2, 1) := by decide +kernel
theorem dL_movedAhead_5 : decode cL_movedAhead 5 = .ok (.invokevirtual 30, 3) := by decide +kernel
theorem dL_movedAhead_8 : decode cL_movedAhead 8 = .ok (.i2l, 1) := by decide +kernel
theorem dL_movedAhead_9 : decode cL_movedAhead 9 = .ok (.lastore, 1) := by decide +kernel
theorem dL_movedAhead_10 : decode cL_movedAhead 10 = .ok (.goto 11, 3) := by decide +kernel
theorem dL_movedAhead_13 : decode cL_movedAhead 13 = .ok (.astore 4, 2) := by decide +kernel
theorem dL_movedAhead_15 : decode cL_movedAhead 15 = .ok (.iconst 1, 1) := by decide +kernel
theorem dL_movedAhead_16 : decode cL_movedAhead 16 = .ok (.ireturn, 1) := by decide +kernel
theorem dL_movedAhead_17 : decode cL_movedAhead 17 = .ok (.astore 4, 2) := by decide +kernel
theorem dL_movedAhead_19 : decode cL_movedAhead 19 = .ok (.iconst 2, 1) := by decide +kernel
theorem dL_movedAhead_20 : decode cL_movedAhead 20 = .ok (.ireturn, 1) := by decide +kernel
theorem dL_movedAhead_21 : decode cL_movedAhead 21 = .ok (.iconst 0, 1) := by decide +kernel
theorem dL_movedAhead_22 : decode cL_movedAhead 22 = .ok (.ireturn, 1) := by decide +kernel
set_option maxRecDepth 20000 in
theorem ggL_movedByBeats_X8_movedByBeats : GoodIn wsL_movedByBeats wsX8_movedByBeats := goodIn_ca (goodIn_ca (goodIn_r _ [7, 8, 9, 10, 11, 12, 6, 13, 14, 15, 16, 17, 18, 19, 20, 21, 22, 23, 24, 25, 26, 27, 28, 29, 30, 31, 32, 33, 34, 35, 36, 37, 38, 39, 40, 41, 42, 43, 44, 45, 46, 47, 48, 49, 50, 51, 52, 53, 54, 55, 56, 57, 58, 59, 60, 61, 62, 63, 64, 65, 66, 67, 68, 69, 70, 71, 72, 73, 74, 75, 76, 77, 78, 79, 80, 81, 82, 83, 84, 85, 86, 87, 88, 89, 90, 91, 92, 93, 94, 95, 96, 97, 98, 99, 100, 101, 102, 103, 104, 105, 106, 107, 108] (by decide +kernel) (by decide +kernel)) (goodIn_sub (fun _ h => List.mem_cons_of_mem _ (List.mem_append_left _ (List.mem_append_right _ h))) (by decide +kernel))) (goodIn_sub (fun _ h => List.mem_cons_of_mem _ (List.mem_append_right _ h)) (by decide +kernel))
set_option maxRecDepth 20000 in
theorem gL_movedByBeats_X8_movedByBeats : GoodIn wsL_movedByBeats (wsV RL 33 RX8 yX8_movedByBeats wsX8_movedByBeats) := goodIn_app (goodIn_of _ (by decide +kernel)) ggL_movedByBeats_X8_movedByBeats
theorem dL_movedByBeats_0 : decode cL_movedByBeats 0 = .ok (.aload_n 3, 1) := by decide +kernel
theorem dL_movedByBeats_1 : decode cL_movedByBeats 1 = .ok (.iconst 0, 1) := by decide +kernel
theorem dL_movedByBeats_2 : decode cL_movedByBeats 2 = .ok (.aload_n 0, 1) := by decide +kernel
theorem dL_movedByBeats_3 : decode cL_movedByBeats 3 = .ok (.iload_n 1, 1) := by decide +kernel
theorem dL_movedByBeats_4 : decode cL_movedByBeats 4 = .ok (.iload_n 2, 1) := by decide +kernel
theorem dL_movedByBeats_5 : decode cL_movedByBeats 5 = .ok (.invokevirtual 33, 3) := by decide +kernel
theorem dL_movedByBeats_8 : decode cL_movedByBeats 8 = .ok (.i2l, 1) := by decide +kernel
theorem dL_movedByBeats_9 : decode cL_movedByBeats 9 = .ok (.lastore, 1) := by decide +kernel
theorem dL_movedByBeats_10 : decode cL_movedByBeats 10 = .ok (.goto 11, 3) := by decide +kernel
theorem dL_movedByBeats_13 : decode cL_movedByBeats 13 = .ok (.astore 4, 2) := by decide +kernel
theorem dL_movedByBeats_15 : decode cL_movedByBeats 15 = .ok (.iconst 1, 1) := by decide +kernel
theorem dL_movedByBeats_16 : decode cL_movedByBeats 16 = .ok (.ireturn, 1) := by decide +kernel
theorem dL_movedByBeats_17 : decode cL_movedByBeats 17 = .ok (.astore 4, 2) := by decide +kernel
theorem dL_movedByBeats_19 : decode cL_movedByBeats 19 = .ok (.iconst 2, 1) := by decide +kernel
theorem dL_movedByBeats_20 : decode cL_movedByBeats 20 = .ok (.ireturn, 1) := by decide +kernel
theorem dL_movedByBeats_21 : decode cL_movedByBeats 21 = .ok (.iconst 0, 1) := by decide +kernel
theorem dL_movedByBeats_22 : decode cL_movedByBeats 22 = .ok (.ireturn, 1) := by decide +kernel
set_option maxRecDepth 20000 in
theorem ggL_setBeat_X8_setBeat : GoodIn wsL_setBeat wsX8_setBeat := goodIn_ca (goodIn_r _ [6, 7, 8, 9, 10, 11, 5, 12, 13, 14, 15, 16, 17, 18, 19, 20, 21, 22, 23, 24, 25, 26, 27, 28, 29, 30, 31, 32] (by decide +kernel) (by decide +kernel)) (goodIn_sub (fun _ h => List.mem_cons_of_mem _ (List.mem_append_right _ h)) (by decide +kernel))
set_option maxRecDepth 20000 in
theorem gL_setBeat_X8_setBeat : GoodIn wsL_setBeat (wsV RL 36 RX8 yX8_setBeat wsX8_setBeat) := goodIn_app (goodIn_of _ (by decide +kernel)) ggL_setBeat_X8_setBeat
theorem dL_setBeat_0 : decode cL_setBeat 0 = .ok (.aload_n 3, 1) := by decide +kernel
theorem dL_setBeat_1 : decode cL_setBeat 1 = .ok (.iconst 0, 1) := by decide +kernel
theorem dL_setBeat_2 : decode cL_setBeat 2 = .ok (.aload_n 0, 1) := by decide +kernel
theorem dL_setBeat_3 : decode cL_setBeat 3 = .ok (.iload_n 1, 1) := by decide +kernel
theorem dL_setBeat_4 : decode cL_setBeat 4 = .ok (.iload_n 2, 1) := by decide +kernel
theorem dL_setBeat_5 : decode cL_setBeat 5 = .ok (.invokevirtual 36, 3) := by decide +kernel
theorem dL_setBeat_8 : decode cL_setBeat 8 = .ok (.i2l, 1) := by decide +kernel
theorem dL_setBeat_9 : decode cL_setBeat 9 = .ok (.lastore, 1) := by decide +kernel
theorem dL_setBeat_10 : decode cL_setBeat 10 = .ok (.goto 7, 3) := by decide +kernel
theorem dL_setBeat_13 : decode cL_setBeat 13 = .ok (.astore 4, 2) := by decide +kernel
theorem dL_setBeat_15 : decode cL_setBeat 15 = .ok (.iconst 1, 1) := by decide +kernel
theorem dL_setBeat_16 : decode cL_setBeat 16 = .ok (.ireturn, 1) := by decide +kernel
theorem dL_setBeat_17 : decode cL_setBeat 17 = .ok (.iconst 0, 1) := by decide +kernel
theorem dL_setBeat_18 : decode cL_setBeat 18 = .ok (.ireturn, 1) := by decide +kernel
set_option maxRecDepth 20000 in
theorem ggL_pass_X8_pass : GoodIn wsL_pass wsX8_pass := goodIn_ca (goodIn_ca (goodIn_r _ [6, 7, 8, 9, 10, 11, 12, 5, 13, 14, 15, 16, 17, 18, 19, 20, 21, 22, 23, 24, 25, 26, 27, 28, 29, 30, 31, 32, 33, 34, 35, 36, 37, 38, 39, 40, 41, 42, 43, 44, 45, 46, 47, 48, 49, 50, 51, 52, 53, 54, 55, 56, 57, 58, 59, 60, 61, 62, 63, 64, 65, 66, 67, 68, 69, 70, 71, 72, 73, 74, 75, 76, 77, 78, 79, 80, 81, 82, 83, 84, 85, 86, 87, 88, 89, 90, 91, 92, 93, 94, 95, 96, 97, 98, 99, 100, 101, 102, 103, 104, 105, 106, 107, 108, 109, 110, 111, 112, 113, 114, 115, 116, 117, 118, 119, 120, 121, 122, 123, 124, 125, 126, 127, 128, 129, 130, 131, 132, 133, 134, 135, 136, 137, 138, 139, 140, 141, 142, 143, 144, 145, 146, 147, 148, 149, 150, 151, 152, 153, 154, 155, 156, 157, 158, 159, 160, 161, 162, 163, 164, 165, 166, 167, 168, 169, 170, 171, 172, 173, 174, 175, 176, 177, 178, 179, 180, 181, 182, 183, 184, 185, 186, 187, 188] (by decide +kernel) (by decide +kernel)) (goodIn_sub (fun _ h => List.mem_cons_of_mem _ (List.mem_append_right _ h)) (by decide +kernel))) (goodIn_sub (fun _ h => List.mem_cons_of_mem _ (List.mem_append_left _ (List.mem_append_right _ h))) (by decide +kernel))
set_option maxRecDepth 20000 in
theorem gL_pass_X8_pass : GoodIn wsL_pass (wsV RL 39 RX8 yX8_pass wsX8_pass) := goodIn_app (goodIn_of _ (by decide +kernel)) ggL_pass_X8_pass
theorem dL_pass_0 : decode cL_pass 0 = .ok (.aload_n 2, 1) := by decide +kernel
theorem dL_pass_1 : decode cL_pass 1 = .ok (.iconst 0, 1) := by decide +kernel
theorem dL_pass_2 : decode cL_pass 2 = .ok (.aload_n 0, 1) := by decide +kernel
theorem dL_pass_3 : decode cL_pass 3 = .ok (.iload_n 1, 1) := by decide +kernel
theorem dL_pass_4 : decode cL_pass 4 = .ok (.invokevirtual 39, 3) := by decide +kernel
theorem dL_pass_7 : decode cL_pass 7 = .ok (.i2l, 1) := by decide +kernel
theorem dL_pass_8 : decode cL_pass 8 = .ok (.lastore, 1) := by decide +kernel
theorem dL_pass_9 : decode cL_pass 9 = .ok (.goto 6, 3) := by decide +kernel
theorem dL_pass_12 : decode cL_pass 12 = .ok (.astore_n 3, 1) := by decide +kernel
theorem dL_pass_13 : decode cL_pass 13 = .ok (.iconst 1, 1) := by decide +kernel
theorem dL_pass_14 : decode cL_pass 14 = .ok (.ireturn, 1) := by decide +kernel
theorem dL_pass_15 : decode cL_pass 15 = .ok (.iconst 0, 1) := by decide +kernel
theorem dL_pass_16 : decode cL_pass 16 = .ok (.ireturn, 1) := by decide +kernel
set_option maxRecDepth 20000 in
theorem ggL_owe_X8_owe : GoodIn wsL_owe wsX8_owe := goodIn_ca (goodIn_r _ [6, 7, 8, 9, 10, 11, 5, 12, 13, 14, 15, 16, 17, 18, 19, 20, 21, 22, 23, 24, 25, 26, 27, 28, 29, 30, 31, 32, 33, 34, 35] (by decide +kernel) (by decide +kernel)) (goodIn_sub (fun _ h => List.mem_cons_of_mem _ (List.mem_append_right _ h)) (by decide +kernel))
set_option maxRecDepth 20000 in
theorem gL_owe_X8_owe : GoodIn wsL_owe (wsV RL 42 RX8 yX8_owe wsX8_owe) := goodIn_app (goodIn_of _ (by decide +kernel)) ggL_owe_X8_owe
theorem dL_owe_0 : decode cL_owe 0 = .ok (.aload_n 2, 1) := by decide +kernel
theorem dL_owe_1 : decode cL_owe 1 = .ok (.iconst 0, 1) := by decide +kernel
theorem dL_owe_2 : decode cL_owe 2 = .ok (.aload_n 0, 1) := by decide +kernel
theorem dL_owe_3 : decode cL_owe 3 = .ok (.iload_n 1, 1) := by decide +kernel
theorem dL_owe_4 : decode cL_owe 4 = .ok (.invokevirtual 42, 3) := by decide +kernel
theorem dL_owe_7 : decode cL_owe 7 = .ok (.i2l, 1) := by decide +kernel
theorem dL_owe_8 : decode cL_owe 8 = .ok (.lastore, 1) := by decide +kernel
theorem dL_owe_9 : decode cL_owe 9 = .ok (.goto 6, 3) := by decide +kernel
theorem dL_owe_12 : decode cL_owe 12 = .ok (.astore_n 3, 1) := by decide +kernel
theorem dL_owe_13 : decode cL_owe 13 = .ok (.iconst 1, 1) := by decide +kernel
theorem dL_owe_14 : decode cL_owe 14 = .ok (.ireturn, 1) := by decide +kernel
theorem dL_owe_15 : decode cL_owe 15 = .ok (.iconst 0, 1) := by decide +kernel
theorem dL_owe_16 : decode cL_owe 16 = .ok (.ireturn, 1) := by decide +kernel
set_option maxRecDepth 20000 in
theorem ggL_setBound_X8_setBound : GoodIn wsL_setBound wsX8_setBound := goodIn_ca (goodIn_r _ [6, 7, 8, 9, 10, 11, 5, 12, 13, 14, 15, 16, 17, 18, 19, 20, 21, 22, 23, 24, 25, 26, 27, 28, 29, 30, 31] (by decide +kernel) (by decide +kernel)) (goodIn_sub (fun _ h => List.mem_cons_of_mem _ (List.mem_append_right _ h)) (by decide +kernel))
set_option maxRecDepth 20000 in
theorem gL_setBound_X8_setBound : GoodIn wsL_setBound (wsV RL 45 RX8 yX8_setBound wsX8_setBound) := goodIn_app (goodIn_of _ (by decide +kernel)) ggL_setBound_X8_setBound
theorem dL_setBound_0 : decode cL_setBound 0 = .ok (.aload_n 2, 1) := by decide +kernel
theorem dL_setBound_1 : decode cL_setBound 1 = .ok (.iconst 0, 1) := by decide +kernel
theorem dL_setBound_2 : decode cL_setBound 2 = .ok (.aload_n 0, 1) := by decide +kernel
theorem dL_setBound_3 : decode cL_setBound 3 = .ok (.iload_n 1, 1) := by decide +kernel
theorem dL_setBound_4 : decode cL_setBound 4 = .ok (.invokevirtual 45, 3) := by decide +kernel
theorem dL_setBound_7 : decode cL_setBound 7 = .ok (.i2l, 1) := by decide +kernel
theorem dL_setBound_8 : decode cL_setBound 8 = .ok (.lastore, 1) := by decide +kernel
theorem dL_setBound_9 : decode cL_setBound 9 = .ok (.goto 6, 3) := by decide +kernel
theorem dL_setBound_12 : decode cL_setBound 12 = .ok (.astore_n 3, 1) := by decide +kernel
theorem dL_setBound_13 : decode cL_setBound 13 = .ok (.iconst 1, 1) := by decide +kernel
theorem dL_setBound_14 : decode cL_setBound 14 = .ok (.ireturn, 1) := by decide +kernel
theorem dL_setBound_15 : decode cL_setBound 15 = .ok (.iconst 0, 1) := by decide +kernel
theorem dL_setBound_16 : decode cL_setBound 16 = .ok (.ireturn, 1) := by decide +kernel
set_option maxRecDepth 20000 in
theorem ggL_setDate_X8_setDate : GoodIn wsL_setDate wsX8_setDate := goodIn_ca (goodIn_ca (goodIn_r _ [6, 7, 8, 9, 10, 11, 12, 5, 13, 14, 15, 16, 17, 18, 19, 20, 21, 22, 23, 24, 25, 26, 27, 28, 29, 30, 31, 32, 33, 34, 35, 36, 37, 38, 39, 40, 41, 42, 43, 44, 45, 46, 47, 48, 49, 50, 51, 52, 53, 54, 55, 56, 57, 58, 59, 60, 61, 62, 63, 64, 65, 66, 67, 68, 69, 70, 71, 72, 73, 74, 75, 76] (by decide +kernel) (by decide +kernel)) (goodIn_sub (fun _ h => List.mem_cons_of_mem _ (List.mem_append_right _ h)) (by decide +kernel))) (goodIn_sub (fun _ h => List.mem_cons_of_mem _ (List.mem_append_left _ (List.mem_append_right _ h))) (by decide +kernel))
set_option maxRecDepth 20000 in
theorem gL_setDate_X8_setDate : GoodIn wsL_setDate (wsV RL 48 RX8 yX8_setDate wsX8_setDate) := goodIn_app (goodIn_of _ (by decide +kernel)) ggL_setDate_X8_setDate
theorem dL_setDate_0 : decode cL_setDate 0 = .ok (.aload 4, 2) := by decide +kernel
theorem dL_setDate_2 : decode cL_setDate 2 = .ok (.iconst 0, 1) := by decide +kernel
theorem dL_setDate_3 : decode cL_setDate 3 = .ok (.aload_n 0, 1) := by decide +kernel
theorem dL_setDate_4 : decode cL_setDate 4 = .ok (.iload_n 1, 1) := by decide +kernel
theorem dL_setDate_5 : decode cL_setDate 5 = .ok (.iload_n 2, 1) := by decide +kernel
theorem dL_setDate_6 : decode cL_setDate 6 = .ok (.iload_n 3, 1) := by decide +kernel
theorem dL_setDate_7 : decode cL_setDate 7 = .ok (.invokevirtual 48, 3) := by decide +kernel
theorem dL_setDate_10 : decode cL_setDate 10 = .ok (.i2l, 1) := by decide +kernel
theorem dL_setDate_11 : decode cL_setDate 11 = .ok (.lastore, 1) := by decide +kernel
theorem dL_setDate_12 : decode cL_setDate 12 = .ok (.goto 7, 3) := by decide +kernel
theorem dL_setDate_15 : decode cL_setDate 15 = .ok (.astore 5, 2) := by decide +kernel
theorem dL_setDate_17 : decode cL_setDate 17 = .ok (.iconst 1, 1) := by decide +kernel
theorem dL_setDate_18 : decode cL_setDate 18 = .ok (.ireturn, 1) := by decide +kernel
theorem dL_setDate_19 : decode cL_setDate 19 = .ok (.iconst 0, 1) := by decide +kernel
theorem dL_setDate_20 : decode cL_setDate 20 = .ok (.ireturn, 1) := by decide +kernel
set_option maxRecDepth 20000 in
theorem ggL_isLeap_X8_isLeap : GoodIn wsL_isLeap wsX8_isLeap := goodIn_ca (goodIn_r _ [6, 7, 8, 9, 10, 5, 11, 12, 13, 14, 15] (by decide +kernel) (by decide +kernel)) (goodIn_sub (fun _ h => List.mem_cons_of_mem _ (List.mem_append_right _ h)) (by decide +kernel))
set_option maxRecDepth 20000 in
theorem gL_isLeap_X8_isLeap : GoodIn wsL_isLeap (wsV RL 52 RX8 yX8_isLeap wsX8_isLeap) := goodIn_app (goodIn_of _ (by decide +kernel)) ggL_isLeap_X8_isLeap
theorem dL_isLeap_0 : decode cL_isLeap 0 = .ok (.aload_n 2, 1) := by decide +kernel
theorem dL_isLeap_1 : decode cL_isLeap 1 = .ok (.iconst 0, 1) := by decide +kernel
theorem dL_isLeap_2 : decode cL_isLeap 2 = .ok (.aload_n 0, 1) := by decide +kernel
theorem dL_isLeap_3 : decode cL_isLeap 3 = .ok (.iload_n 1, 1) := by decide +kernel
theorem dL_isLeap_4 : decode cL_isLeap 4 = .ok (.invokevirtual 52, 3) := by decide +kernel
theorem dL_isLeap_7 : decode cL_isLeap 7 = .ok (.ifCond .eq 7, 3) := by decide +kernel
theorem dL_isLeap_10 : decode cL_isLeap 10 = .ok (.lconst 1, 1) := by decide +kernel
theorem dL_isLeap_11 : decode cL_isLeap 11 = .ok (.goto 4, 3) := by decide +kernel
theorem dL_isLeap_14 : decode cL_isLeap 14 = .ok (.lconst 0, 1) := by decide +kernel
theorem dL_isLeap_15 : decode cL_isLeap 15 = .ok (.lastore, 1) := by decide +kernel
theorem dL_isLeap_16 : decode cL_isLeap 16 = .ok (.goto 6, 3) := by decide +kernel
theorem dL_isLeap_19 : decode cL_isLeap 19 = .ok (.astore_n 3, 1) := by decide +kernel
theorem dL_isLeap_20 : decode cL_isLeap 20 = .ok (.iconst 1, 1) := by decide +kernel
theorem dL_isLeap_21 : decode cL_isLeap 21 = .ok (.ireturn, 1) := by decide +kernel
theorem dL_isLeap_22 : decode cL_isLeap 22 = .ok (.iconst 0, 1) := by decide +kernel
theorem dL_isLeap_23 : decode cL_isLeap 23 = .ok (.ireturn, 1) := by decide +kernel
set_option maxRecDepth 20000 in
theorem ggL_numberOf_X8_numberOf : GoodIn wsL_numberOf wsX8_numberOf := goodIn_ca (goodIn_ca (goodIn_r _ [6, 7, 8, 9, 5, 10, 11, 12, 13, 14, 15, 16, 17, 18, 19, 20, 21, 22, 23, 24, 25, 26, 27, 28, 29, 30, 31, 32, 33, 34, 35, 36, 37, 38, 39] (by decide +kernel) (by decide +kernel)) (goodIn_sub (fun _ h => List.mem_cons_of_mem _ (List.mem_append_right _ h)) (by decide +kernel))) (goodIn_sub (fun _ h => List.mem_cons_of_mem _ (List.mem_append_left _ (List.mem_append_right _ h))) (by decide +kernel))
set_option maxRecDepth 20000 in
theorem gL_numberOf_X8_numberOf : GoodIn wsL_numberOf (wsV RL 56 RX8 yX8_numberOf wsX8_numberOf) := goodIn_app (goodIn_of _ (by decide +kernel)) ggL_numberOf_X8_numberOf
theorem dL_numberOf_0 : decode cL_numberOf 0 = .ok (.aload 4, 2) := by decide +kernel
theorem dL_numberOf_2 : decode cL_numberOf 2 = .ok (.iconst 0, 1) := by decide +kernel
theorem dL_numberOf_3 : decode cL_numberOf 3 = .ok (.aload_n 0, 1) := by decide +kernel
theorem dL_numberOf_4 : decode cL_numberOf 4 = .ok (.iload_n 1, 1) := by decide +kernel
theorem dL_numberOf_5 : decode cL_numberOf 5 = .ok (.iload_n 2, 1) := by decide +kernel
theorem dL_numberOf_6 : decode cL_numberOf 6 = .ok (.iload_n 3, 1) := by decide +kernel
theorem dL_numberOf_7 : decode cL_numberOf 7 = .ok (.invokevirtual 56, 3) := by decide +kernel
theorem dL_numberOf_10 : decode cL_numberOf 10 = .ok (.lastore, 1) := by decide +kernel
theorem dL_numberOf_11 : decode cL_numberOf 11 = .ok (.goto 7, 3) := by decide +kernel
theorem dL_numberOf_14 : decode cL_numberOf 14 = .ok (.astore 5, 2) := by decide +kernel
theorem dL_numberOf_16 : decode cL_numberOf 16 = .ok (.iconst 1, 1) := by decide +kernel
theorem dL_numberOf_17 : decode cL_numberOf 17 = .ok (.ireturn, 1) := by decide +kernel
theorem dL_numberOf_18 : decode cL_numberOf 18 = .ok (.iconst 0, 1) := by decide +kernel
theorem dL_numberOf_19 : decode cL_numberOf 19 = .ok (.ireturn, 1) := by decide +kernel
set_option maxRecDepth 20000 in
theorem ggL_numberByCounting_X8_numberByCounting : GoodIn wsL_numberByCounting wsX8_numberByCounting := goodIn_ca (goodIn_ca (goodIn_r _ [6, 7, 8, 9, 5, 10, 11, 12, 13, 14, 15, 16, 17, 18, 19, 20, 21, 22, 23, 24, 25, 26, 27, 28, 29, 30] (by decide +kernel) (by decide +kernel)) (goodIn_sub (fun _ h => List.mem_cons_of_mem _ (List.mem_append_right _ h)) (by decide +kernel))) (goodIn_sub (fun _ h => List.mem_cons_of_mem _ (List.mem_append_left _ (List.mem_append_right _ h))) (by decide +kernel))
set_option maxRecDepth 20000 in
theorem gL_numberByCounting_X8_numberByCounting : GoodIn wsL_numberByCounting (wsV RL 60 RX8 yX8_numberByCounting wsX8_numberByCounting) := goodIn_app (goodIn_of _ (by decide +kernel)) ggL_numberByCounting_X8_numberByCounting
theorem dL_numberByCounting_0 : decode cL_numberByCounting 0 = .ok (.aload 4, 2) := by decide +kernel
theorem dL_numberByCounting_2 : decode cL_numberByCounting 2 = .ok (.iconst 0, 1) := by decide +kernel
theorem dL_numberByCounting_3 : decode cL_numberByCounting 3 = .ok (.aload_n 0, 1) := by decide +kernel
theorem dL_numberByCounting_4 : decode cL_numberByCounting 4 = .ok (.iload_n 1, 1) := by decide +kernel
theorem dL_numberByCounting_5 : decode cL_numberByCounting 5 = .ok (.iload_n 2, 1) := by decide +kernel
theorem dL_numberByCounting_6 : decode cL_numberByCounting 6 = .ok (.iload_n 3, 1) := by decide +kernel
theorem dL_numberByCounting_7 : decode cL_numberByCounting 7 = .ok (.invokevirtual 60, 3) := by decide +kernel
theorem dL_numberByCounting_10 : decode cL_numberByCounting 10 = .ok (.lastore, 1) := by decide +kernel
theorem dL_numberByCounting_11 : decode cL_numberByCounting 11 = .ok (.goto 7, 3) := by decide +kernel
theorem dL_numberByCounting_14 : decode cL_numberByCounting 14 = .ok (.astore 5, 2) := by decide +kernel
theorem dL_numberByCounting_16 : decode cL_numberByCounting 16 = .ok (.iconst 1, 1) := by decide +kernel
theorem dL_numberByCounting_17 : decode cL_numberByCounting 17 = .ok (.ireturn, 1) := by decide +kernel
theorem dL_numberByCounting_18 : decode cL_numberByCounting 18 = .ok (.iconst 0, 1) := by decide +kernel
theorem dL_numberByCounting_19 : decode cL_numberByCounting 19 = .ok (.ireturn, 1) := by decide +kernel
set_option maxRecDepth 20000 in
theorem ggL_setSilence_X8_setSilence : GoodIn wsL_setSilence wsX8_setSilence := goodIn_ca (goodIn_r _ [6, 7, 8, 9, 10, 11, 5, 12, 13, 14, 15, 16, 17, 18, 19, 20, 21, 22, 23, 24, 25, 26, 27, 28, 29, 30, 31, 32, 33, 34, 35, 36, 37, 38, 39, 40, 41] (by decide +kernel) (by decide +kernel)) (goodIn_sub (fun _ h => List.mem_cons_of_mem _ (List.mem_append_right _ h)) (by decide +kernel))
set_option maxRecDepth 20000 in
theorem gL_setSilence_X8_setSilence : GoodIn wsL_setSilence (wsV RL 63 RX8 yX8_setSilence wsX8_setSilence) := goodIn_app (goodIn_of _ (by decide +kernel)) ggL_setSilence_X8_setSilence
theorem dL_setSilence_0 : decode cL_setSilence 0 = .ok (.aload_n 3, 1) := by decide +kernel
theorem dL_setSilence_1 : decode cL_setSilence 1 = .ok (.iconst 0, 1) := by decide +kernel
theorem dL_setSilence_2 : decode cL_setSilence 2 = .ok (.aload_n 0, 1) := by decide +kernel
theorem dL_setSilence_3 : decode cL_setSilence 3 = .ok (.iload_n 1, 1) := by decide +kernel
theorem dL_setSilence_4 : decode cL_setSilence 4 = .ok (.iload_n 2, 1) := by decide +kernel
theorem dL_setSilence_5 : decode cL_setSilence 5 = .ok (.invokevirtual 63, 3) := by decide +kernel
theorem dL_setSilence_8 : decode cL_setSilence 8 = .ok (.i2l, 1) := by decide +kernel
theorem dL_setSilence_9 : decode cL_setSilence 9 = .ok (.lastore, 1) := by decide +kernel
theorem dL_setSilence_10 : decode cL_setSilence 10 = .ok (.goto 7, 3) := by decide +kernel
theorem dL_setSilence_13 : decode cL_setSilence 13 = .ok (.astore 4, 2) := by decide +kernel
theorem dL_setSilence_15 : decode cL_setSilence 15 = .ok (.iconst 1, 1) := by decide +kernel
theorem dL_setSilence_16 : decode cL_setSilence 16 = .ok (.ireturn, 1) := by decide +kernel
theorem dL_setSilence_17 : decode cL_setSilence 17 = .ok (.iconst 0, 1) := by decide +kernel
theorem dL_setSilence_18 : decode cL_setSilence 18 = .ok (.ireturn, 1) := by decide +kernel
set_option maxRecDepth 20000 in
theorem ggL_addDrum_X8_addDrum : GoodIn wsL_addDrum wsX8_addDrum := goodIn_ca (goodIn_r _ [6, 7, 8, 9, 10, 11, 12, 13, 14, 15, 16, 17, 18, 19, 20, 21, 22, 23, 24, 25, 26, 27, 28, 29, 30, 31, 32, 33, 34, 35, 36, 37, 38, 39, 40, 41, 42, 43, 44, 45, 46, 47, 48, 49, 50, 51, 52, 53, 54, 55, 56, 57, 58, 59, 60, 61, 62, 63, 64, 65, 66, 67, 68, 69, 70, 71, 72, 73, 74, 75, 76, 77, 78, 79, 80, 81, 82, 83, 84, 85, 86, 87, 88, 89, 90, 91, 92, 93, 94, 95, 96, 97, 98, 99, 100, 101, 102, 103, 104, 105, 106, 107, 108, 109, 110, 111, 112, 113] (by decide +kernel) (by decide +kernel)) (goodIn_sub (fun _ h => List.mem_cons_of_mem _ (List.mem_append_right _ h)) (by decide +kernel))
set_option maxRecDepth 20000 in
theorem gL_addDrum_X8_addDrum : GoodIn wsL_addDrum (wsV RL 66 RX8 yX8_addDrum wsX8_addDrum) := goodIn_app (goodIn_of _ (by decide +kernel)) ggL_addDrum_X8_addDrum
theorem dL_addDrum_0 : decode cL_addDrum 0 = .ok (.aload_n 1, 1) := by decide +kernel
theorem dL_addDrum_1 : decode cL_addDrum 1 = .ok (.iconst 0, 1) := by decide +kernel
theorem dL_addDrum_2 : decode cL_addDrum 2 = .ok (.aload_n 0, 1) := by decide +kernel
theorem dL_addDrum_3 : decode cL_addDrum 3 = .ok (.invokevirtual 66, 3) := by decide +kernel
theorem dL_addDrum_6 : decode cL_addDrum 6 = .ok (.i2l, 1) := by decide +kernel
theorem dL_addDrum_7 : decode cL_addDrum 7 = .ok (.lastore, 1) := by decide +kernel
theorem dL_addDrum_8 : decode cL_addDrum 8 = .ok (.goto 6, 3) := by decide +kernel
theorem dL_addDrum_11 : decode cL_addDrum 11 = .ok (.astore_n 2, 1) := by decide +kernel
theorem dL_addDrum_12 : decode cL_addDrum 12 = .ok (.iconst 1, 1) := by decide +kernel
theorem dL_addDrum_13 : decode cL_addDrum 13 = .ok (.ireturn, 1) := by decide +kernel
theorem dL_addDrum_14 : decode cL_addDrum 14 = .ok (.iconst 0, 1) := by decide +kernel
theorem dL_addDrum_15 : decode cL_addDrum 15 = .ok (.ireturn, 1) := by decide +kernel
set_option maxRecDepth 20000 in
theorem ggL_setPin_X8_setPin : GoodIn wsL_setPin wsX8_setPin := goodIn_ca (goodIn_ca (goodIn_ca (goodIn_r _ [7, 8, 9, 10, 11, 12, 6, 13, 14, 15, 16, 17, 18, 19, 20, 21, 22, 23, 24, 25, 26, 27, 28, 29, 30, 31, 32, 33, 34, 35, 36, 37, 38, 39, 40, 41, 42, 43, 44, 45, 46, 47, 48, 49, 50, 51, 52, 53, 54, 55, 56, 57, 58, 59, 60, 61, 62, 63, 64, 65, 66, 67, 68, 69, 70, 71, 72, 73, 74, 75, 76, 77, 78, 79, 80, 81] (by decide +kernel) (by decide +kernel)) (goodIn_sub (fun _ h => List.mem_cons_of_mem _ (List.mem_append_left _ (List.mem_append_right _ h))) (by decide +kernel))) (goodIn_sub (fun _ h => List.mem_cons_of_mem _ (List.mem_append_right _ h)) (by decide +kernel))) (goodIn_sub (fun _ h => List.mem_cons_of_mem _ (List.mem_append_left _ (List.mem_append_left _ (List.mem_append_right _ h)))) (by decide +kernel))
set_option maxRecDepth 20000 in
theorem gL_setPin_X8_setPin : GoodIn wsL_setPin (wsV RL 70 RX8 yX8_setPin wsX8_setPin) := goodIn_app (goodIn_of _ (by decide +kernel)) ggL_setPin_X8_setPin
theorem dL_setPin_0 : decode cL_setPin 0 = .ok (.aload 5, 2) := by decide +kernel
theorem dL_setPin_2 : decode cL_setPin 2 = .ok (.iconst 0, 1) := by decide +kernel
theorem dL_setPin_3 : decode cL_setPin 3 = .ok (.aload_n 0, 1) := by decide +kernel
theorem dL_setPin_4 : decode cL_setPin 4 = .ok (.iload_n 1, 1) := by decide +kernel
theorem dL_setPin_5 : decode cL_setPin 5 = .ok (.iload_n 2, 1) := by decide +kernel
theorem dL_setPin_6 : decode cL_setPin 6 = .ok (.iload_n 3, 1) := by decide +kernel
theorem dL_setPin_7 : decode cL_setPin 7 = .ok (.iload 4, 2) := by decide +kernel
theorem dL_setPin_9 : decode cL_setPin 9 = .ok (.invokevirtual 70, 3) := by decide +kernel
theorem dL_setPin_12 : decode cL_setPin 12 = .ok (.ifCond .eq 7, 3) := by decide +kernel
theorem dL_setPin_15 : decode cL_setPin 15 = .ok (.lconst 1, 1) := by decide +kernel
theorem dL_setPin_16 : decode cL_setPin 16 = .ok (.goto 4, 3) := by decide +kernel
theorem dL_setPin_19 : decode cL_setPin 19 = .ok (.lconst 0, 1) := by decide +kernel
theorem dL_setPin_20 : decode cL_setPin 20 = .ok (.lastore, 1) := by decide +kernel
theorem dL_setPin_21 : decode cL_setPin 21 = .ok (.goto 11, 3) := by decide +kernel
theorem dL_setPin_24 : decode cL_setPin 24 = .ok (.astore 6, 2) := by decide +kernel
theorem dL_setPin_26 : decode cL_setPin 26 = .ok (.iconst 1, 1) := by decide +kernel
theorem dL_setPin_27 : decode cL_setPin 27 = .ok (.ireturn, 1) := by decide +kernel
theorem dL_setPin_28 : decode cL_setPin 28 = .ok (.astore 6, 2) := by decide +kernel
theorem dL_setPin_30 : decode cL_setPin 30 = .ok (.iconst 2, 1) := by decide +kernel
theorem dL_setPin_31 : decode cL_setPin 31 = .ok (.ireturn, 1) := by decide +kernel
theorem dL_setPin_32 : decode cL_setPin 32 = .ok (.iconst 0, 1) := by decide +kernel
theorem dL_setPin_33 : decode cL_setPin 33 = .ok (.ireturn, 1) := by decide +kernel
set_option maxRecDepth 20000 in
theorem ggL_pins_X8_pins : GoodIn wsL_pins wsX8_pins := goodIn_ca (goodIn_r _ [6, 7, 8, 9, 5, 10, 11, 12, 13, 14, 15, 16, 17, 18, 19, 20, 21, 22, 23, 24, 25, 26, 27, 28, 29, 30, 31, 32, 33, 34, 35, 36, 37, 38, 39, 40, 41, 42, 43, 44, 45, 46, 47, 48, 49, 50, 51, 52, 53, 54, 55, 56, 57, 58, 59, 60, 61, 62, 63, 64, 65, 66, 67, 68, 69, 70] (by decide +kernel) (by decide +kernel)) (goodIn_sub (fun _ h => List.mem_cons_of_mem _ (List.mem_append_right _ h)) (by decide +kernel))
set_option maxRecDepth 20000 in
theorem gL_pins_X8_pins : GoodIn wsL_pins (wsV RL 74 RX8 yX8_pins wsX8_pins) := goodIn_app (goodIn_of _ (by decide +kernel)) ggL_pins_X8_pins
theorem dL_pins_0 : decode cL_pins 0 = .ok (.aload_n 2, 1) := by decide +kernel
theorem dL_pins_1 : decode cL_pins 1 = .ok (.iconst 0, 1) := by decide +kernel
theorem dL_pins_2 : decode cL_pins 2 = .ok (.aload_n 0, 1) := by decide +kernel
theorem dL_pins_3 : decode cL_pins 3 = .ok (.iload_n 1, 1) := by decide +kernel
theorem dL_pins_4 : decode cL_pins 4 = .ok (.invokevirtual 74, 3) := by decide +kernel
theorem dL_pins_7 : decode cL_pins 7 = .ok (.i2l, 1) := by decide +kernel
theorem dL_pins_8 : decode cL_pins 8 = .ok (.lastore, 1) := by decide +kernel
theorem dL_pins_9 : decode cL_pins 9 = .ok (.goto 6, 3) := by decide +kernel
theorem dL_pins_12 : decode cL_pins 12 = .ok (.astore_n 3, 1) := by decide +kernel
theorem dL_pins_13 : decode cL_pins 13 = .ok (.iconst 1, 1) := by decide +kernel
theorem dL_pins_14 : decode cL_pins 14 = .ok (.ireturn, 1) := by decide +kernel
theorem dL_pins_15 : decode cL_pins 15 = .ok (.iconst 0, 1) := by decide +kernel
theorem dL_pins_16 : decode cL_pins 16 = .ok (.ireturn, 1) := by decide +kernel
set_option maxRecDepth 20000 in
theorem ggL_bellAt_X8_bellAt : GoodIn wsL_bellAt wsX8_bellAt := goodIn_ca (goodIn_ca (goodIn_ca (goodIn_r _ [7, 8, 9, 10, 11, 12, 6, 13, 14, 15, 16, 17, 18, 19, 20, 21, 22, 23, 24, 25, 26, 27, 28, 29, 30, 31, 32, 33, 34, 35, 36, 37, 38, 39, 40, 41, 42, 43, 44, 45, 46, 47, 48, 49, 50, 51, 52, 53, 54, 55, 56, 57, 58, 59, 60, 61, 62, 63, 64, 65, 66, 67, 68, 69, 70, 71, 72, 73, 74, 75, 76, 77, 78, 79, 80, 81, 82, 83, 84, 85] (by decide +kernel) (by decide +kernel)) (goodIn_sub (fun _ h => List.mem_cons_of_mem _ (List.mem_append_left _ (List.mem_append_right _ h))) (by decide +kernel))) (goodIn_sub (fun _ h => List.mem_cons_of_mem _ (List.mem_append_right _ h)) (by decide +kernel))) (goodIn_sub (fun _ h => List.mem_cons_of_mem _ (List.mem_append_left _ (List.mem_append_left _ (List.mem_append_right _ h)))) (by decide +kernel))
set_option maxRecDepth 20000 in
theorem gL_bellAt_X8_bellAt : GoodIn wsL_bellAt (wsV RL 77 RX8 yX8_bellAt wsX8_bellAt) := goodIn_app (goodIn_of _ (by decide +kernel)) ggL_bellAt_X8_bellAt
theorem dL_bellAt_0 : decode cL_bellAt 0 = .ok (.aload_n 3, 1) := by decide +kernel
theorem dL_bellAt_1 : decode cL_bellAt 1 = .ok (.iconst 0, 1) := by decide +kernel
theorem dL_bellAt_2 : decode cL_bellAt 2 = .ok (.aload_n 0, 1) := by decide +kernel
theorem dL_bellAt_3 : decode cL_bellAt 3 = .ok (.iload_n 1, 1) := by decide +kernel
theorem dL_bellAt_4 : decode cL_bellAt 4 = .ok (.iload_n 2, 1) := by decide +kernel
theorem dL_bellAt_5 : decode cL_bellAt 5 = .ok (.invokevirtual 77, 3) := by decide +kernel
theorem dL_bellAt_8 : decode cL_bellAt 8 = .ok (.i2l, 1) := by decide +kernel
theorem dL_bellAt_9 : decode cL_bellAt 9 = .ok (.lastore, 1) := by decide +kernel
theorem dL_bellAt_10 : decode cL_bellAt 10 = .ok (.goto 11, 3) := by decide +kernel
theorem dL_bellAt_13 : decode cL_bellAt 13 = .ok (.astore 4, 2) := by decide +kernel
theorem dL_bellAt_15 : decode cL_bellAt 15 = .ok (.iconst 1, 1) := by decide +kernel
theorem dL_bellAt_16 : decode cL_bellAt 16 = .ok (.ireturn, 1) := by decide +kernel
theorem dL_bellAt_17 : decode cL_bellAt 17 = .ok (.astore 4, 2) := by decide +kernel
theorem dL_bellAt_19 : decode cL_bellAt 19 = .ok (.iconst 2, 1) := by decide +kernel
theorem dL_bellAt_20 : decode cL_bellAt 20 = .ok (.ireturn, 1) := by decide +kernel
theorem dL_bellAt_21 : decode cL_bellAt 21 = .ok (.iconst 0, 1) := by decide +kernel
theorem dL_bellAt_22 : decode cL_bellAt 22 = .ok (.ireturn, 1) := by decide +kernel
set_option maxRecDepth 20000 in
theorem ggL_setTune_X8_setTune : GoodIn wsL_setTune wsX8_setTune := goodIn_ca (goodIn_ca (goodIn_r _ [7, 8, 9, 10, 11, 12, 6, 13, 14, 15, 16, 17, 18, 19, 20, 21, 22, 23, 24, 25, 26, 27, 28, 29, 30, 31, 32, 33, 34, 35, 36, 37, 38, 39, 40, 41, 42, 43, 44, 45, 46, 47, 48, 49, 50, 51, 52, 53, 54, 55, 56, 57, 58, 59, 60, 61, 62, 63, 64, 65, 66, 67, 68, 69, 70, 71, 72, 73, 74, 75, 76, 77, 78, 79, 80, 81, 82, 83, 84, 85, 86, 87, 88] (by decide +kernel) (by decide +kernel)) (goodIn_sub (fun _ h => List.mem_cons_of_mem _ (List.mem_append_left _ (List.mem_append_right _ h))) (by decide +kernel))) (goodIn_sub (fun _ h => List.mem_cons_of_mem _ (List.mem_append_right _ h)) (by decide +kernel))
set_option maxRecDepth 20000 in
theorem gL_setTune_X8_setTune : GoodIn wsL_setTune (wsV RL 82 RX8 yX8_setTune wsX8_setTune) := goodIn_app (goodIn_of _ (by decide +kernel)) ggL_setTune_X8_setTune
theorem dL_setTune_0 : decode cL_setTune 0 = .ok (.aload_n 3, 1) := by decide +kernel
theorem dL_setTune_1 : decode cL_setTune 1 = .ok (.iconst 0, 1) := by decide +kernel
theorem dL_setTune_2 : decode cL_setTune 2 = .ok (.aload_n 0, 1) := by decide +kernel
theorem dL_setTune_3 : decode cL_setTune 3 = .ok (.iload_n 1, 1) := by decide +kernel
theorem dL_setTune_4 : decode cL_setTune 4 = .ok (.iload_n 2, 1) := by decide +kernel
theorem dL_setTune_5 : decode cL_setTune 5 = .ok (.invokevirtual 82, 3) := by decide +kernel
theorem dL_setTune_8 : decode cL_setTune 8 = .ok (.i2l, 1) := by decide +kernel
theorem dL_setTune_9 : decode cL_setTune 9 = .ok (.lastore, 1) := by decide +kernel
theorem dL_setTune_10 : decode cL_setTune 10 = .ok (.goto 11, 3) := by decide +kernel
theorem dL_setTune_13 : decode cL_setTune 13 = .ok (.astore 4, 2) := by decide +kernel
theorem dL_setTune_15 : decode cL_setTune 15 = .ok (.iconst 1, 1) := by decide +kernel
theorem dL_setTune_16 : decode cL_setTune 16 = .ok (.ireturn, 1) := by decide +kernel
theorem dL_setTune_17 : decode cL_setTune 17 = .ok (.astore 4, 2) := by decide +kernel
theorem dL_setTune_19 : decode cL_setTune 19 = .ok (.iconst 2, 1) := by decide +kernel
theorem dL_setTune_20 : decode cL_setTune 20 = .ok (.ireturn, 1) := by decide +kernel
theorem dL_setTune_21 : decode cL_setTune 21 = .ok (.iconst 0, 1) := by decide +kernel
theorem dL_setTune_22 : decode cL_setTune 22 = .ok (.ireturn, 1) := by decide +kernel
set_option maxRecDepth 20000 in
theorem ggL_strokes_X8_strokes : GoodIn wsL_strokes wsX8_strokes := goodIn_ca (goodIn_ca (goodIn_r _ [6, 7, 8, 9, 10, 11, 5, 12, 13, 14, 15, 16, 17, 18, 19, 20, 21, 22, 23, 24, 25, 26, 27, 28, 29, 30, 31, 32, 33] (by decide +kernel) (by decide +kernel)) (goodIn_sub (fun _ h => List.mem_cons_of_mem _ (List.mem_append_right _ h)) (by decide +kernel))) (goodIn_sub (fun _ h => List.mem_cons_of_mem _ (List.mem_append_left _ (List.mem_append_right _ h))) (by decide +kernel))
set_option maxRecDepth 20000 in
theorem gL_strokes_X8_strokes : GoodIn wsL_strokes (wsV RL 85 RX8 yX8_strokes wsX8_strokes) := goodIn_app (goodIn_of _ (by decide +kernel)) ggL_strokes_X8_strokes
theorem dL_strokes_0 : decode cL_strokes 0 = .ok (.aload_n 2, 1) := by decide +kernel
theorem dL_strokes_1 : decode cL_strokes 1 = .ok (.iconst 0, 1) := by decide +kernel
theorem dL_strokes_2 : decode cL_strokes 2 = .ok (.aload_n 0, 1) := by decide +kernel
theorem dL_strokes_3 : decode cL_strokes 3 = .ok (.iload_n 1, 1) := by decide +kernel
theorem dL_strokes_4 : decode cL_strokes 4 = .ok (.invokevirtual 85, 3) := by decide +kernel
theorem dL_strokes_7 : decode cL_strokes 7 = .ok (.i2l, 1) := by decide +kernel
theorem dL_strokes_8 : decode cL_strokes 8 = .ok (.lastore, 1) := by decide +kernel
theorem dL_strokes_9 : decode cL_strokes 9 = .ok (.goto 6, 3) := by decide +kernel
theorem dL_strokes_12 : decode cL_strokes 12 = .ok (.astore_n 3, 1) := by decide +kernel
theorem dL_strokes_13 : decode cL_strokes 13 = .ok (.iconst 1, 1) := by decide +kernel
theorem dL_strokes_14 : decode cL_strokes 14 = .ok (.ireturn, 1) := by decide +kernel
theorem dL_strokes_15 : decode cL_strokes 15 = .ok (.iconst 0, 1) := by decide +kernel
theorem dL_strokes_16 : decode cL_strokes 16 = .ok (.ireturn, 1) := by decide +kernel
set_option maxRecDepth 20000 in
theorem ggL_markAt_X8_markAt : GoodIn wsL_markAt wsX8_markAt := goodIn_ca (goodIn_ca (goodIn_r _ [6, 7, 8, 9, 10, 11, 12, 13, 14, 15, 16, 17, 18, 19, 20, 21, 5, 22, 23, 24, 25, 26, 27, 28, 29, 30, 31, 32, 33, 34, 35, 36, 37, 38, 39, 40, 41, 42, 43, 44, 45, 46, 47, 48] (by decide +kernel) (by decide +kernel)) (goodIn_sub (fun _ h => List.mem_cons_of_mem _ (List.mem_append_right _ h)) (by decide +kernel))) (goodIn_sub (fun _ h => List.mem_cons_of_mem _ (List.mem_append_left _ (List.mem_append_right _ h))) (by decide +kernel))
set_option maxRecDepth 20000 in
theorem gL_markAt_X8_markAt : GoodIn wsL_markAt (wsV RL 88 RX8 yX8_markAt wsX8_markAt) := goodIn_app (goodIn_of _ (by decide +kernel)) ggL_markAt_X8_markAt
theorem dL_markAt_0 : decode cL_markAt 0 = .ok (.aload_n 2, 1) := by decide +kernel
theorem dL_markAt_1 : decode cL_markAt 1 = .ok (.iconst 0, 1) := by decide +kernel
theorem dL_markAt_2 : decode cL_markAt 2 = .ok (.aload_n 0, 1) := by decide +kernel
theorem dL_markAt_3 : decode cL_markAt 3 = .ok (.iload_n 1, 1) := by decide +kernel
theorem dL_markAt_4 : decode cL_markAt 4 = .ok (.invokevirtual 88, 3) := by decide +kernel
theorem dL_markAt_7 : decode cL_markAt 7 = .ok (.i2l, 1) := by decide +kernel
theorem dL_markAt_8 : decode cL_markAt 8 = .ok (.lastore, 1) := by decide +kernel
theorem dL_markAt_9 : decode cL_markAt 9 = .ok (.goto 6, 3) := by decide +kernel
theorem dL_markAt_12 : decode cL_markAt 12 = .ok (.astore_n 3, 1) := by decide +kernel
theorem dL_markAt_13 : decode cL_markAt 13 = .ok (.iconst 1, 1) := by decide +kernel
theorem dL_markAt_14 : decode cL_markAt 14 = .ok (.ireturn, 1) := by decide +kernel
theorem dL_markAt_15 : decode cL_markAt 15 = .ok (.iconst 0, 1) := by decide +kernel
theorem dL_markAt_16 : decode cL_markAt 16 = .ok (.ireturn, 1) := by decide +kernel
set_option maxRecDepth 20000 in
theorem ggL_strokesAt_X8_strokesAt : GoodIn wsL_strokesAt wsX8_strokesAt := goodIn_ca (goodIn_ca (goodIn_r _ [6, 7, 8, 9, 10, 11, 12, 13, 14, 15, 16, 17, 18, 19, 20, 21, 22, 23, 24, 25, 26, 27, 28, 29, 30, 31, 32, 33, 34, 35, 36, 37, 38, 39, 40, 41, 42, 43, 44, 45, 46, 47, 48, 49, 50, 51, 52, 53, 54] (by decide +kernel) (by decide +kernel)) (goodIn_sub (fun _ h => List.mem_cons_of_mem _ (List.mem_append_right _ h)) (by decide +kernel))) (goodIn_sub (fun _ h => List.mem_cons_of_mem _ (List.mem_append_left _ (List.mem_append_right _ h))) (by decide +kernel))
set_option maxRecDepth 20000 in
theorem gL_strokesAt_X8_strokesAt : GoodIn wsL_strokesAt (wsV RL 91 RX8 yX8_strokesAt wsX8_strokesAt) := goodIn_app (goodIn_of _ (by decide +kernel)) ggL_strokesAt_X8_strokesAt
theorem dL_strokesAt_0 : decode cL_strokesAt 0 = .ok (.aload_n 2, 1) := by decide +kernel
theorem dL_strokesAt_1 : decode cL_strokesAt 1 = .ok (.iconst 0, 1) := by decide +kernel
theorem dL_strokesAt_2 : decode cL_strokesAt 2 = .ok (.aload_n 0, 1) := by decide +kernel
theorem dL_strokesAt_3 : decode cL_strokesAt 3 = .ok (.iload_n 1, 1) := by decide +kernel
theorem dL_strokesAt_4 : decode cL_strokesAt 4 = .ok (.invokevirtual 91, 3) := by decide +kernel
theorem dL_strokesAt_7 : decode cL_strokesAt 7 = .ok (.i2l, 1) := by decide +kernel
theorem dL_strokesAt_8 : decode cL_strokesAt 8 = .ok (.lastore, 1) := by decide +kernel
theorem dL_strokesAt_9 : decode cL_strokesAt 9 = .ok (.goto 6, 3) := by decide +kernel
theorem dL_strokesAt_12 : decode cL_strokesAt 12 = .ok (.astore_n 3, 1) := by decide +kernel
theorem dL_strokesAt_13 : decode cL_strokesAt 13 = .ok (.iconst 1, 1) := by decide +kernel
theorem dL_strokesAt_14 : decode cL_strokesAt 14 = .ok (.ireturn, 1) := by decide +kernel
theorem dL_strokesAt_15 : decode cL_strokesAt 15 = .ok (.iconst 0, 1) := by decide +kernel
theorem dL_strokesAt_16 : decode cL_strokesAt 16 = .ok (.ireturn, 1) := by decide +kernel
set_option maxRecDepth 20000 in
theorem ggL_strokesAhead_X8_strokesAhead : GoodIn wsL_strokesAhead wsX8_strokesAhead := goodIn_ca (goodIn_ca (goodIn_r _ [6, 7, 8, 9, 5, 10, 11, 12, 13, 14, 15, 16, 17, 18, 19, 20, 21, 22, 23, 24, 25, 26, 27, 28, 29, 30, 31, 32, 33, 34, 35, 36, 37, 38, 39, 40, 41, 42, 43, 44, 45, 46, 47, 48, 49, 50, 51, 52, 53, 54, 55, 56, 57, 58, 59, 60, 61, 62, 63, 64, 65, 66, 67, 68, 69, 70, 71, 72, 73, 74, 75, 76, 77, 78, 79, 80, 81, 82, 83, 84, 85, 86, 87, 88, 89, 90, 91, 92, 93, 94, 95, 96, 97, 98, 99, 100, 101, 102, 103, 104, 105, 106, 107, 108, 109, 110, 111, 112, 113, 114, 115, 116, 117, 118, 119, 120, 121, 122, 123, 124, 125, 126, 127, 128, 129, 130, 131, 132, 133, 134, 135, 136, 137, 138, 139, 140, 141, 142, 143, 144, 145, 146, 147, 148, 149, 150, 151, 152, 153, 154, 155, 156, 157, 158, 159, 160, 161, 162, 163, 164, 165, 166, 167, 168, 169, 170, 171, 172, 173, 174, 175, 176, 177, 178, 179, 180, 181, 182, 183, 184, 185, 186, 187, 188, 189, 190, 191, 192] (by decide +kernel) (by decide +kernel)) (goodIn_sub (fun _ h => List.mem_cons_of_mem _ (List.mem_append_right _ h)) (by decide +kernel))) (goodIn_sub (fun _ h => List.mem_cons_of_mem _ (List.mem_append_left _ (List.mem_append_right _ h))) (by decide +kernel))
set_option maxRecDepth 20000 in
theorem gL_strokesAhead_X8_strokesAhead : GoodIn wsL_strokesAhead (wsV RL 94 RX8 yX8_strokesAhead wsX8_strokesAhead) := goodIn_app (goodIn_of _ (by decide +kernel)) ggL_strokesAhead_X8_strokesAhead
theorem dL_strokesAhead_0 : decode cL_strokesAhead 0 = .ok (.aload_n 2, 1) := by decide +kernel
theorem dL_strokesAhead_1 : decode cL_strokesAhead 1 = .ok (.iconst 0, 1) := by decide +kernel
theorem dL_strokesAhead_2 : decode cL_strokesAhead 2 = .ok (.aload_n 0, 1) := by decide +kernel
theorem dL_strokesAhead_3 : decode cL_strokesAhead 3 = .ok (.iload_n 1, 1) := by decide +kernel
theorem dL_strokesAhead_4 : decode cL_strokesAhead 4 = .ok (.invokevirtual 94, 3) := by decide +kernel
theorem dL_strokesAhead_7 : decode cL_strokesAhead 7 = .ok (.i2l, 1) := by decide +kernel
theorem dL_strokesAhead_8 : decode cL_strokesAhead 8 = .ok (.lastore, 1) := by decide +kernel
theorem dL_strokesAhead_9 : decode cL_strokesAhead 9 = .ok (.goto 6, 3) := by decide +kernel
theorem dL_strokesAhead_12 : decode cL_strokesAhead 12 = .ok (.astore_n 3, 1) := by decide +kernel
theorem dL_strokesAhead_13 : decode cL_strokesAhead 13 = .ok (.iconst 1, 1) := by decide +kernel
theorem dL_strokesAhead_14 : decode cL_strokesAhead 14 = .ok (.ireturn, 1) := by decide +kernel
theorem dL_strokesAhead_15 : decode cL_strokesAhead 15 = .ok (.iconst 0, 1) := by decide +kernel
theorem dL_strokesAhead_16 : decode cL_strokesAhead 16 = .ok (.ireturn, 1) := by decide +kernel
set_option maxRecDepth 20000 in
theorem ggL_strokesByBeats_X8_strokesByBeats : GoodIn wsL_strokesByBeats wsX8_strokesByBeats := goodIn_ca (goodIn_ca (goodIn_r _ [6, 7, 8, 9, 5, 10, 11, 12, 13, 14, 15, 16, 17, 18, 19, 20, 21, 22, 23, 24, 25, 26, 27, 28, 29, 30, 31, 32, 33, 34, 35, 36, 37, 38, 39, 40, 41, 42, 43, 44, 45, 46, 47, 48, 49, 50, 51, 52, 53, 54, 55, 56, 57, 58, 59, 60, 61, 62, 63, 64, 65, 66, 67, 68, 69, 70, 71, 72, 73, 74, 75, 76, 77, 78, 79, 80, 81, 82, 83, 84, 85, 86, 87, 88, 89, 90, 91, 92, 93, 94, 95, 96, 97, 98, 99, 100, 101, 102, 103, 104, 105, 106, 107, 108, 109, 110, 111, 112, 113, 114, 115, 116, 117, 118, 119, 120, 121, 122, 123, 124, 125, 126, 127, 128, 129, 130, 131, 132, 133, 134, 135, 136, 137, 138, 139, 140, 141, 142, 143, 144, 145, 146, 147, 148, 149, 150, 151, 152, 153, 154, 155, 156, 157, 158, 159, 160, 161, 162, 163, 164, 165, 166, 167, 168, 169, 170, 171, 172, 173, 174, 175, 176, 177, 178, 179, 180, 181, 182, 183, 184, 185, 186, 187, 188, 189, 190] (by decide +kernel) (by decide +kernel)) (goodIn_sub (fun _ h => List.mem_cons_of_mem _ (List.mem_append_right _ h)) (by decide +kernel))) (goodIn_sub (fun _ h => List.mem_cons_of_mem _ (List.mem_append_left _ (List.mem_append_right _ h))) (by decide +kernel))
set_option maxRecDepth 20000 in
theorem gL_strokesByBeats_X8_strokesByBeats : GoodIn wsL_strokesByBeats (wsV RL 97 RX8 yX8_strokesByBeats wsX8_strokesByBeats) := goodIn_app (goodIn_of _ (by decide +kernel)) ggL_strokesByBeats_X8_strokesByBeats
theorem dL_strokesByBeats_0 : decode cL_strokesByBeats 0 = .ok (.aload_n 2, 1) := by decide +kernel
theorem dL_strokesByBeats_1 : decode cL_strokesByBeats 1 = .ok (.iconst 0, 1) := by decide +kernel
theorem dL_strokesByBeats_2 : decode cL_strokesByBeats 2 = .ok (.aload_n 0, 1) := by decide +kernel
theorem dL_strokesByBeats_3 : decode cL_strokesByBeats 3 = .ok (.iload_n 1, 1) := by decide +kernel
theorem dL_strokesByBeats_4 : decode cL_strokesByBeats 4 = .ok (.invokevirtual 97, 3) := by decide +kernel
theorem dL_strokesByBeats_7 : decode cL_strokesByBeats 7 = .ok (.i2l, 1) := by decide +kernel
theorem dL_strokesByBeats_8 : decode cL_strokesByBeats 8 = .ok (.lastore, 1) := by decide +kernel
theorem dL_strokesByBeats_9 : decode cL_strokesByBeats 9 = .ok (.goto 6, 3) := by decide +kernel
theorem dL_strokesByBeats_12 : decode cL_strokesByBeats 12 = .ok (.astore_n 3, 1) := by decide +kernel
theorem dL_strokesByBeats_13 : decode cL_strokesByBeats 13 = .ok (.iconst 1, 1) := by decide +kernel
theorem dL_strokesByBeats_14 : decode cL_strokesByBeats 14 = .ok (.ireturn, 1) := by decide +kernel
theorem dL_strokesByBeats_15 : decode cL_strokesByBeats 15 = .ok (.iconst 0, 1) := by decide +kernel
theorem dL_strokesByBeats_16 : decode cL_strokesByBeats 16 = .ok (.ireturn, 1) := by decide +kernel
set_option maxRecDepth 20000 in
theorem ggL_struckShare_X8_struckShare : GoodIn wsL_struckShare wsX8_struckShare := goodIn_ca (goodIn_r _ [6, 7, 8, 9, 10, 11, 12, 13, 14, 15, 16, 17, 18, 19, 20, 21, 22, 23, 24, 25, 26, 27, 28, 29, 30, 31, 32, 33, 34, 35, 36, 37, 38, 39] (by decide +kernel) (by decide +kernel)) (goodIn_sub (fun _ h => List.mem_cons_of_mem _ (List.mem_append_right _ h)) (by decide +kernel))
set_option maxRecDepth 20000 in
theorem gL_struckShare_X8_struckShare : GoodIn wsL_struckShare (wsV RL 100 RX8 yX8_struckShare wsX8_struckShare) := goodIn_app (goodIn_of _ (by decide +kernel)) ggL_struckShare_X8_struckShare
theorem dL_struckShare_0 : decode cL_struckShare 0 = .ok (.aload_n 1, 1) := by decide +kernel
theorem dL_struckShare_1 : decode cL_struckShare 1 = .ok (.iconst 0, 1) := by decide +kernel
theorem dL_struckShare_2 : decode cL_struckShare 2 = .ok (.aload_n 0, 1) := by decide +kernel
theorem dL_struckShare_3 : decode cL_struckShare 3 = .ok (.invokevirtual 100, 3) := by decide +kernel
theorem dL_struckShare_6 : decode cL_struckShare 6 = .ok (.f2d, 1) := by decide +kernel
theorem dL_struckShare_7 : decode cL_struckShare 7 = .ok (.dastore, 1) := by decide +kernel
theorem dL_struckShare_8 : decode cL_struckShare 8 = .ok (.goto 6, 3) := by decide +kernel
theorem dL_struckShare_11 : decode cL_struckShare 11 = .ok (.astore_n 2, 1) := by decide +kernel
theorem dL_struckShare_12 : decode cL_struckShare 12 = .ok (.iconst 1, 1) := by decide +kernel
theorem dL_struckShare_13 : decode cL_struckShare 13 = .ok (.ireturn, 1) := by decide +kernel
theorem dL_struckShare_14 : decode cL_struckShare 14 = .ok (.iconst 0, 1) := by decide +kernel
theorem dL_struckShare_15 : decode cL_struckShare 15 = .ok (.ireturn, 1) := by decide +kernel
set_option maxRecDepth 20000 in
theorem ggL_law_X8_init : GoodIn wsL_law wsX8_init := goodIn_ca (goodIn_r _ [10, 11, 12, 13, 14, 15, 16, 17, 18, 19, 20, 21, 22, 23, 24, 25, 26, 27, 28, 29, 30, 31, 32, 33, 34, 35, 36, 37, 38, 39, 40, 41, 42, 43, 44, 45, 46, 47, 48, 49, 50, 51, 52, 53, 54, 55, 56, 57, 58, 59, 60, 61, 62, 63, 64, 65, 66, 67, 68, 69, 70, 71, 72, 73, 74, 75, 76, 77, 78, 79, 80, 81, 82, 83, 84, 85, 86, 87, 88, 89, 90, 91, 92, 93, 94, 95, 96, 97, 98, 99, 100, 101, 102, 103, 104, 105, 106, 107, 108, 109, 110, 111, 112, 113, 114, 115, 116, 117, 118, 119, 120, 121, 122, 123, 124, 125, 126, 127, 128, 129, 130, 131, 132, 133, 134, 135, 136, 137, 138, 139, 140, 141, 142, 143, 144, 145, 146, 147, 148, 149, 150, 151, 152, 153, 154, 155, 156, 157, 158, 159, 160, 161, 162, 163, 164, 165, 166, 167, 168, 169, 170, 171, 172, 173, 174, 175, 176, 177, 2, 178, 179, 180, 181, 1113, 1078, 1079, 1080, 1081, 1082, 1083, 1084, 1085, 1086, 1114, 1115, 1116, 1117, 1118, 1119, 1120, 1121, 1122, 1123, 1124, 1125, 1126, 1127, 1128, 1129, 1130, 1131, 1132, 1133, 1134, 1135, 1136, 1137, 1138] (by decide +kernel) (by decide +kernel)) (goodIn_sub (fun _ h => List.mem_append_left _ (List.mem_append_left _ (List.mem_append_left _ (List.mem_append_left _ (List.mem_append_left _ (List.mem_append_left _ (List.mem_append_right _ h))))))) (by decide +kernel))
set_option maxRecDepth 20000 in
theorem gL_law_X8_init : GoodIn wsL_law (wsX8_init) := ggL_law_X8_init
set_option maxRecDepth 20000 in
theorem ggL_law_X9_init : GoodIn wsL_law wsX9_init := goodIn_ca (goodIn_r _ [184, 185, 12, 13, 186, 187, 188, 189, 190, 148, 191, 192, 193, 194, 195, 196, 197, 6, 198, 199, 200, 201, 5, 202, 203, 204, 205, 206, 207, 208, 209, 210, 211, 212, 1087, 1088, 1089, 1090, 1091, 1092, 1093, 1094, 1095, 1096, 1097, 1098, 1099, 1100, 1101, 1102, 1103, 1104, 1105, 1106, 1107, 1108, 1109, 1110, 1111, 1112] (by decide +kernel) (by decide +kernel)) (goodIn_sub (fun _ h => List.mem_append_left _ (List.mem_append_left _ (List.mem_append_left _ (List.mem_append_left _ (List.mem_append_left _ (List.mem_append_left _ (List.mem_append_right _ h))))))) (by decide +kernel))
set_option maxRecDepth 20000 in
theorem gL_law_X9_init : GoodIn wsL_law (wsX9_init) := ggL_law_X9_init
set_option maxRecDepth 20000 in
theorem ggL_law_L_addWheel : GoodIn wsL_law wsL_addWheel := goodIn_ca (goodIn_ca (goodIn_ca (goodIn_r _ [216, 217, 218, 219, 220, 221, 2, 222, 223, 224, 225, 226, 17, 36, 227, 177, 178, 228, 229, 230, 16, 231, 45, 232, 233, 234, 44, 235, 78, 236, 237, 238, 239, 46, 47, 48, 240, 241, 242, 243, 244, 245, 246, 247, 248, 249, 250, 251, 252, 253, 254, 255, 256, 257, 258, 259, 260, 53, 261, 262, 263, 264, 68, 265, 266, 267, 268, 269, 270, 271, 272, 71, 69, 70, 273, 274, 275, 276, 277, 278, 64, 65, 66, 67, 12, 13, 72, 73, 74, 75, 76, 77, 79, 80, 81, 82, 83, 84, 85, 86, 87, 88, 89, 90, 52, 91, 92, 93, 94, 95, 96, 97, 98, 99, 100, 101, 102, 103, 104, 105, 106, 107, 108, 109, 110, 111, 112, 113, 114, 115, 116, 117, 118, 119, 120, 121, 122, 123, 124, 1078, 1079, 1080, 1081, 1082, 1083, 1084, 1085, 1086, 1113, 1131, 1132, 1133, 1134, 1135, 1136, 1137, 1138] (by decide +kernel) (by decide +kernel)) (goodIn_sub (fun _ h => List.mem_append_left _ (List.mem_append_left _ (List.mem_append_left _ (List.mem_append_left _ (List.mem_append_left _ (List.mem_append_left _ (List.mem_append_right _ h))))))) (by decide +kernel))) (goodIn_sub (fun _ h => List.mem_append_left _ (List.mem_append_left _ (List.mem_append_left _ (List.mem_append_left _ (List.mem_append_left _ (List.mem_append_right _ h)))))) (by decide +kernel))) (goodIn_sub (fun _ h => List.mem_append_left _ (List.mem_append_left _ (List.mem_append_left _ (List.mem_append_left _ (List.mem_append_right _ h))))) (by decide +kernel))
set_option maxRecDepth 20000 in
theorem gL_law_L_addWheel : GoodIn wsL_law (va_wsS RL 110 yL_addWheel wsL_addWheel) := goodIn_app (goodIn_of _ (by decide +kernel)) ggL_law_L_addWheel
set_option maxRecDepth 20000 in
theorem ggL_law_X9_addWheel : GoodIn wsL_law wsX9_addWheel := goodIn_ca (goodIn_ca (goodIn_r _ [282, 186, 283, 191, 192, 198, 284, 285, 286, 5, 287, 288, 289, 290, 291, 292, 293, 294, 295, 1087, 1088, 1089, 1090, 1091, 1092, 1093, 1094, 1095, 1096, 1097, 1098, 1099, 1100, 1101, 1102, 1103, 1104, 1105, 1106, 1107, 1108, 1109, 1110, 1111, 1112] (by decide +kernel) (by decide +kernel)) (goodIn_sub (fun _ h => List.mem_append_left _ (List.mem_append_left _ (List.mem_append_left _ (List.mem_append_left _ (List.mem_append_left _ (List.mem_append_left _ (List.mem_append_right _ h))))))) (by decide +kernel))) (goodIn_sub (fun _ h => List.mem_append_left _ (List.mem_append_left _ (List.mem_append_left _ (List.mem_append_right _ h)))) (by decide +kernel))
set_option maxRecDepth 20000 in
theorem gL_law_X9_addWheel : GoodIn wsL_law (wsV RL 115 RX9 yX9_addWheel wsX9_addWheel) := goodIn_app (goodIn_of _ (by decide +kernel)) ggL_law_X9_addWheel
set_option maxRecDepth 20000 in
theorem ggL_law_X9_thrown : GoodIn wsL_law wsX9_thrown := goodIn_r _ [299, 283, 1087, 1088, 1089, 1090, 1091, 1092, 1093, 1094, 1095, 1096, 1097, 1098, 1099, 1100, 1101, 1102, 1103, 1104, 1105, 1106, 1107, 1108, 1109, 1110, 1111, 1112] (by decide +kernel) (by decide +kernel)
set_option maxRecDepth 20000 in
theorem gL_law_X9_thrown : GoodIn wsL_law (wsV RL 116 RX9 yX9_thrown wsX9_thrown) := goodIn_app (goodIn_of _ (by decide +kernel)) ggL_law_X9_thrown
set_option maxRecDepth 20000 in
theorem ggL_law_X8_wheels : GoodIn wsL_law wsX8_wheels := goodIn_r _ [303, 17, 228, 229, 230, 16, 231, 45, 232, 233, 234, 44, 235, 78, 1078, 1079, 1080, 1081, 1082, 1083, 1084, 1085, 1086, 1113, 1131, 1132, 1133] (by decide +kernel) (by decide +kernel)
set_option maxRecDepth 20000 in
theorem gL_law_X8_wheels : GoodIn wsL_law (wsV RL 119 RX8 yX8_wheels wsX8_wheels) := goodIn_app (goodIn_of _ (by decide +kernel)) ggL_law_X8_wheels
set_option maxRecDepth 20000 in
theorem ggL_law_X9_wheels : GoodIn wsL_law wsX9_wheels := goodIn_r _ [307, 186, 1087, 1088, 1089, 1090, 1091, 1092, 1093, 1094, 1095, 1096, 1097, 1098, 1099, 1100, 1101, 1102, 1103, 1104, 1105, 1106, 1107, 1108, 1109, 1110, 1111, 1112] (by decide +kernel) (by decide +kernel)
set_option maxRecDepth 20000 in
theorem gL_law_X9_wheels : GoodIn wsL_law (wsV RL 122 RX9 yX9_wheels wsX9_wheels) := goodIn_app (goodIn_of _ (by decide +kernel)) ggL_law_X9_wheels
set_option maxRecDepth 20000 in
theorem ggL_law_L_moved : GoodIn wsL_law wsL_moved := goodIn_ca (goodIn_ca (goodIn_r _ [310, 311, 312, 313, 314, 2, 315, 17, 36, 316, 317, 318, 319, 320, 321, 228, 229, 230, 16, 231, 45, 232, 233, 234, 44, 235, 78, 227, 177, 178, 322, 266, 267, 268, 244, 245, 246, 247, 248, 249, 250, 251, 252, 253, 254, 255, 256, 257, 258, 259, 260, 53, 269, 270, 271, 48, 272, 71, 69, 70, 273, 274, 275, 276, 277, 278, 1078, 1079, 1080, 1081, 1082, 1083, 1084, 1085, 1086, 1113, 1131, 1132, 1133, 1134, 1135, 1136, 1137, 1138] (by decide +kernel) (by decide +kernel)) (goodIn_sub (fun _ h => List.mem_append_left _ (List.mem_append_left _ (List.mem_append_left _ (List.mem_append_left _ (List.mem_append_left _ (List.mem_append_left _ (List.mem_append_right _ h))))))) (by decide +kernel))) (goodIn_sub (fun _ h => List.mem_append_left _ (List.mem_append_left _ (List.mem_append_right _ h))) (by decide +kernel))
set_option maxRecDepth 20000 in
theorem gL_law_L_moved : GoodIn wsL_law (va_wsS RL 123 yL_moved wsL_moved) := goodIn_app (goodIn_of _ (by decide +kernel)) ggL_law_L_moved
set_option maxRecDepth 20000 in
theorem ggL_law_X9_moved : GoodIn wsL_law wsX9_moved := goodIn_ca (goodIn_ca (goodIn_r _ [326, 284, 327, 328, 329, 5, 330, 186, 283, 285, 286, 287, 292, 293, 294, 295, 198, 192, 191, 1087, 1088, 1089, 1090, 1091, 1092, 1093, 1094, 1095, 1096, 1097, 1098, 1099, 1100, 1101, 1102, 1103, 1104, 1105, 1106, 1107, 1108, 1109, 1110, 1111, 1112] (by decide +kernel) (by decide +kernel)) (goodIn_sub (fun _ h => List.mem_append_left _ (List.mem_append_left _ (List.mem_append_left _ (List.mem_append_left _ (List.mem_append_left _ (List.mem_append_left _ (List.mem_append_right _ h))))))) (by decide +kernel))) (goodIn_sub (fun _ h => List.mem_append_left _ (List.mem_append_left _ (List.mem_append_left _ (List.mem_append_right _ h)))) (by decide +kernel))
set_option maxRecDepth 20000 in
theorem gL_law_X9_moved : GoodIn wsL_law (wsV RL 126 RX9 yX9_moved wsX9_moved) := goodIn_app (goodIn_of _ (by decide +kernel)) ggL_law_X9_moved
set_option maxRecDepth 20000 in
theorem ggL_law_L_wholeTurns : GoodIn wsL_law wsL_wholeTurns := goodIn_ca (goodIn_ca (goodIn_r _ [333, 311, 334, 335, 336, 2, 337, 17, 36, 316, 317, 318, 319, 320, 321, 228, 229, 230, 16, 231, 45, 232, 233, 234, 44, 235, 78, 227, 177, 178, 338, 339, 340, 341, 265, 266, 267, 268, 244, 245, 246, 247, 248, 249, 250, 251, 252, 253, 254, 255, 256, 257, 258, 259, 260, 53, 269, 270, 271, 48, 272, 71, 69, 70, 273, 274, 275, 276, 277, 278, 240, 241, 242, 243, 261, 262, 263, 264, 68, 1078, 1079, 1080, 1081, 1082, 1083, 1084, 1085, 1086, 1113, 1131, 1132, 1133, 1134, 1135, 1136, 1137, 1138] (by decide +kernel) (by decide +kernel)) (goodIn_sub (fun _ h => List.mem_append_left _ (List.mem_append_left _ (List.mem_append_left _ (List.mem_append_left _ (List.mem_append_left _ (List.mem_append_left _ (List.mem_append_right _ h))))))) (by decide +kernel))) (goodIn_sub (fun _ h => List.mem_append_left _ (List.mem_append_left _ (List.mem_append_right _ h))) (by decide +kernel))
set_option maxRecDepth 20000 in
theorem gL_law_L_wholeTurns : GoodIn wsL_law (va_wsS RL 127 yL_wholeTurns wsL_wholeTurns) := goodIn_app (goodIn_of _ (by decide +kernel)) ggL_law_L_wholeTurns
set_option maxRecDepth 20000 in
theorem ggL_law_X9_wholeTurns : GoodIn wsL_law wsX9_wholeTurns := goodIn_ca (goodIn_ca (goodIn_r _ [345, 284, 191, 327, 328, 329, 5, 330, 186, 283, 285, 286, 287, 292, 293, 294, 295, 198, 192, 1087, 1088, 1089, 1090, 1091, 1092, 1093, 1094, 1095, 1096, 1097, 1098, 1099, 1100, 1101, 1102, 1103, 1104, 1105, 1106, 1107, 1108, 1109, 1110, 1111, 1112] (by decide +kernel) (by decide +kernel)) (goodIn_sub (fun _ h => List.mem_append_left _ (List.mem_append_left _ (List.mem_append_left _ (List.mem_append_left _ (List.mem_append_left _ (List.mem_append_left _ (List.mem_append_right _ h))))))) (by decide +kernel))) (goodIn_sub (fun _ h => List.mem_append_left _ (List.mem_append_left _ (List.mem_append_left _ (List.mem_append_right _ h)))) (by decide +kernel))
set_option maxRecDepth 20000 in
theorem gL_law_X9_wholeTurns : GoodIn wsL_law (wsV RL 129 RX9 yX9_wholeTurns wsX9_wholeTurns) := goodIn_app (goodIn_of _ (by decide +kernel)) ggL_law_X9_wholeTurns
set_option maxRecDepth 20000 in
theorem ggL_law_L_beatsForTurn : GoodIn wsL_law wsL_beatsForTurn := goodIn_ca (goodIn_ca (goodIn_r _ [348, 311, 349, 350, 351, 2, 352, 17, 316, 317, 318, 319, 320, 321, 228, 229, 230, 16, 231, 45, 232, 233, 234, 44, 235, 78, 227, 177, 178, 353, 354, 355, 356, 244, 245, 246, 247, 248, 249, 250, 251, 252, 253, 254, 255, 256, 257, 258, 259, 260, 53, 261, 262, 263, 48, 264, 68, 357, 358, 359, 360, 69, 1078, 1079, 1080, 1081, 1082, 1083, 1084, 1085, 1086, 1113, 1131, 1132, 1133, 1134, 1135, 1136, 1137, 1138] (by decide +kernel) (by decide +kernel)) (goodIn_sub (fun _ h => List.mem_append_left _ (List.mem_append_left _ (List.mem_append_left _ (List.mem_append_left _ (List.mem_append_left _ (List.mem_append_left _ (List.mem_append_right _ h))))))) (by decide +kernel))) (goodIn_sub (fun _ h => List.mem_append_left _ (List.mem_append_left _ (List.mem_append_right _ h))) (by decide +kernel))
set_option maxRecDepth 20000 in
theorem gL_law_L_beatsForTurn : GoodIn wsL_law (va_wsS RL 130 yL_beatsForTurn wsL_beatsForTurn) := goodIn_app (goodIn_of _ (by decide +kernel)) ggL_law_L_beatsForTurn
set_option maxRecDepth 20000 in
theorem ggL_law_X9_beatsForTurn : GoodIn wsL_law wsX9_beatsForTurn := goodIn_ca (goodIn_r _ [364, 365, 191, 192, 327, 328, 329, 5, 330, 186, 283, 285, 286, 287, 1087, 1088, 1089, 1090, 1091, 1092, 1093, 1094, 1095, 1096, 1097, 1098, 1099, 1100, 1101, 1102, 1103, 1104, 1105, 1106, 1107, 1108, 1109, 1110, 1111, 1112] (by decide +kernel) (by decide +kernel)) (goodIn_sub (fun _ h => List.mem_append_left _ (List.mem_append_left _ (List.mem_append_left _ (List.mem_append_left _ (List.mem_append_left _ (List.mem_append_left _ (List.mem_append_right _ h))))))) (by decide +kernel))
set_option maxRecDepth 20000 in
theorem gL_law_X9_beatsForTurn : GoodIn wsL_law (wsV RL 133 RX9 yX9_beatsForTurn wsX9_beatsForTurn) := goodIn_app (goodIn_of _ (by decide +kernel)) ggL_law_X9_beatsForTurn
set_option maxRecDepth 20000 in
theorem ggL_law_L_movedAhead : GoodIn wsL_law wsL_movedAhead := goodIn_ca (goodIn_ca (goodIn_ca (goodIn_r _ [368, 311, 217, 369, 370, 371, 2, 372, 17, 36, 316, 317, 318, 319, 320, 321, 228, 229, 230, 16, 231, 45, 232, 233, 234, 44, 235, 78, 227, 177, 178, 373, 374, 375, 376, 223, 224, 322, 266, 267, 268, 244, 245, 246, 247, 248, 249, 250, 251, 252, 253, 254, 255, 256, 257, 258, 259, 260, 53, 269, 270, 271, 48, 272, 71, 69, 70, 273, 274, 275, 276, 277, 278, 1078, 1079, 1080, 1081, 1082, 1083, 1084, 1085, 1086, 1113, 1131, 1132, 1133, 1134, 1135, 1136, 1137, 1138] (by decide +kernel) (by decide +kernel)) (goodIn_sub (fun _ h => List.mem_append_left _ (List.mem_append_left _ (List.mem_append_left _ (List.mem_append_left _ (List.mem_append_left _ (List.mem_append_left _ (List.mem_append_right _ h))))))) (by decide +kernel))) (goodIn_sub (fun _ h => List.mem_append_left _ (List.mem_append_left _ (List.mem_append_right _ h))) (by decide +kernel))) (goodIn_sub (fun _ h => List.mem_append_left _ (List.mem_append_left _ (List.mem_append_left _ (List.mem_append_left _ (List.mem_append_left _ (List.mem_append_right _ h)))))) (by decide +kernel))
set_option maxRecDepth 20000 in
theorem gL_law_L_movedAhead : GoodIn wsL_law (va_wsS RL 134 yL_movedAhead wsL_movedAhead) := goodIn_app (goodIn_of _ (by decide +kernel)) ggL_law_L_movedAhead
set_option maxRecDepth 20000 in
theorem ggL_law_X9_movedAhead : GoodIn wsL_law wsX9_movedAhead := goodIn_ca (goodIn_ca (goodIn_r _ [380, 284, 327, 328, 329, 5, 330, 186, 283, 285, 286, 287, 288, 289, 290, 291, 292, 293, 294, 295, 198, 192, 191, 1087, 1088, 1089, 1090, 1091, 1092, 1093, 1094, 1095, 1096, 1097, 1098, 1099, 1100, 1101, 1102, 1103, 1104, 1105, 1106, 1107, 1108, 1109, 1110, 1111, 1112] (by decide +kernel) (by decide +kernel)) (goodIn_sub (fun _ h => List.mem_append_left _ (List.mem_append_left _ (List.mem_append_left _ (List.mem_append_left _ (List.mem_append_left _ (List.mem_append_left _ (List.mem_append_right _ h))))))) (by decide +kernel))) (goodIn_sub (fun _ h => List.mem_append_left _ (List.mem_append_left _ (List.mem_append_left _ (List.mem_append_right _ h)))) (by decide +kernel))
set_option maxRecDepth 20000 in
theorem gL_law_X9_movedAhead : GoodIn wsL_law (wsV RL 136 RX9 yX9_movedAhead wsX9_movedAhead) := goodIn_app (goodIn_of _ (by decide +kernel)) ggL_law_X9_movedAhead
set_option maxRecDepth 20000 in
theorem ggL_law_L_movedByBeats : GoodIn wsL_law wsL_movedByBeats := goodIn_ca (goodIn_ca (goodIn_ca (goodIn_r _ [383, 311, 217, 384, 385, 386, 2, 387, 17, 36, 316, 317, 318, 319, 320, 321, 228, 229, 230, 16, 231, 45, 232, 233, 234, 44, 235, 78, 227, 177, 178, 373, 374, 375, 376, 223, 224, 388, 389, 390, 391, 392, 393, 394, 395, 244, 245, 246, 247, 248, 249, 250, 251, 252, 253, 254, 255, 256, 257, 258, 259, 260, 53, 396, 397, 398, 48, 399, 71, 69, 70, 400, 401, 270, 271, 272, 273, 274, 275, 276, 277, 278, 269, 402, 403, 404, 405, 406, 407, 408, 409, 1078, 1079, 1080, 1081, 1082, 1083, 1084, 1085, 1086, 1113, 1131, 1132, 1133, 1134, 1135, 1136, 1137, 1138] (by decide +kernel) (by decide +kernel)) (goodIn_sub (fun _ h => List.mem_append_left _ (List.mem_append_left _ (List.mem_append_left _ (List.mem_append_left _ (List.mem_append_left _ (List.mem_append_left _ (List.mem_append_right _ h))))))) (by decide +kernel))) (goodIn_sub (fun _ h => List.mem_append_left _ (List.mem_append_left _ (List.mem_append_right _ h))) (by decide +kernel))) (goodIn_sub (fun _ h => List.mem_append_left _ (List.mem_append_left _ (List.mem_append_left _ (List.mem_append_left _ (List.mem_append_left _ (List.mem_append_right _ h)))))) (by decide +kernel))
set_option maxRecDepth 20000 in
theorem gL_law_L_movedByBeats : GoodIn wsL_law (va_wsS RL 137 yL_movedByBeats wsL_movedByBeats) := goodIn_app (goodIn_of _ (by decide +kernel)) ggL_law_L_movedByBeats
set_option maxRecDepth 20000 in
theorem ggL_law_X9_movedByBeats : GoodIn wsL_law wsX9_movedByBeats := goodIn_ca (goodIn_ca (goodIn_r _ [413, 414, 378, 379, 5, 380, 284, 327, 328, 329, 330, 186, 283, 285, 286, 287, 288, 289, 290, 291, 292, 293, 294, 295, 198, 192, 191, 1087, 1088, 1089, 1090, 1091, 1092, 1093, 1094, 1095, 1096, 1097, 1098, 1099, 1100, 1101, 1102, 1103, 1104, 1105, 1106, 1107, 1108, 1109, 1110, 1111, 1112] (by decide +kernel) (by decide +kernel)) (goodIn_sub (fun _ h => List.mem_append_left _ (List.mem_append_left _ (List.mem_append_left _ (List.mem_append_left _ (List.mem_append_left _ (List.mem_append_left _ (List.mem_append_right _ h))))))) (by decide +kernel))) (goodIn_sub (fun _ h => List.mem_append_left _ (List.mem_append_left _ (List.mem_append_left _ (List.mem_append_right _ h)))) (by decide +kernel))
set_option maxRecDepth 20000 in
theorem gL_law_X9_movedByBeats : GoodIn wsL_law (wsV RL 139 RX9 yX9_movedByBeats wsX9_movedByBeats) := goodIn_app (goodIn_of _ (by decide +kernel)) ggL_law_X9_movedByBeats
set_option maxRecDepth 20000 in
theorem ggL_law_L_setBeat : GoodIn wsL_law wsL_setBeat := goodIn_ca (goodIn_ca (goodIn_r _ [417, 217, 418, 419, 420, 2, 421, 223, 224, 21, 227, 177, 178, 422, 423, 424, 20, 425, 129, 130, 131, 1078, 1079, 1080, 1081, 1082, 1083, 1084, 1085, 1086, 1114, 1115, 1116] (by decide +kernel) (by decide +kernel)) (goodIn_sub (fun _ h => List.mem_append_left _ (List.mem_append_left _ (List.mem_append_left _ (List.mem_append_left _ (List.mem_append_left _ (List.mem_append_left _ (List.mem_append_right _ h))))))) (by decide +kernel))) (goodIn_sub (fun _ h => List.mem_append_left _ (List.mem_append_left _ (List.mem_append_left _ (List.mem_append_left _ (List.mem_append_left _ (List.mem_append_right _ h)))))) (by decide +kernel))
set_option maxRecDepth 20000 in
theorem gL_law_L_setBeat : GoodIn wsL_law (va_wsS RL 140 yL_setBeat wsL_setBeat) := goodIn_app (goodIn_of _ (by decide +kernel)) ggL_law_L_setBeat
set_option maxRecDepth 20000 in
theorem ggL_law_X9_setBeat : GoodIn wsL_law wsX9_setBeat := goodIn_r _ [429, 283, 187, 188, 430, 285, 286, 5, 287, 288, 289, 290, 291, 1087, 1088, 1089, 1090, 1091, 1092, 1093, 1094, 1095, 1096, 1097, 1098, 1099, 1100, 1101, 1102, 1103, 1104, 1105, 1106, 1107, 1108, 1109, 1110, 1111, 1112] (by decide +kernel) (by decide +kernel)
set_option maxRecDepth 20000 in
theorem gL_law_X9_setBeat : GoodIn wsL_law (wsV RL 142 RX9 yX9_setBeat wsX9_setBeat) := goodIn_app (goodIn_of _ (by decide +kernel)) ggL_law_X9_setBeat
set_option maxRecDepth 20000 in
theorem ggL_law_L_pass : GoodIn wsL_law wsL_pass := goodIn_ca (goodIn_ca (goodIn_r _ [433, 217, 434, 435, 436, 2, 437, 36, 25, 21, 373, 374, 375, 376, 223, 224, 227, 177, 178, 438, 439, 440, 20, 441, 131, 129, 130, 442, 443, 444, 445, 273, 274, 275, 276, 277, 278, 446, 447, 448, 449, 450, 119, 93, 120, 451, 92, 94, 452, 453, 454, 24, 455, 136, 456, 457, 458, 459, 460, 461, 462, 463, 464, 465, 466, 467, 468, 469, 470, 29, 471, 472, 473, 474, 139, 475, 476, 477, 478, 33, 479, 480, 481, 482, 483, 484, 485, 28, 486, 152, 487, 488, 489, 490, 491, 492, 493, 494, 495, 496, 150, 151, 497, 498, 499, 500, 501, 502, 503, 504, 147, 505, 506, 507, 508, 509, 510, 511, 512, 513, 514, 515, 516, 517, 149, 518, 519, 520, 521, 522, 523, 524, 525, 526, 527, 528, 529, 530, 531, 532, 533, 32, 534, 160, 161, 158, 159, 535, 536, 537, 538, 539, 540, 541, 542, 543, 138, 137, 544, 545, 1078, 1079, 1080, 1081, 1082, 1083, 1084, 1085, 1086, 1114, 1115, 1116, 1117, 1118, 1119, 1120, 1121, 1122, 1123, 1124, 1125, 1126, 1139, 1140, 1141, 1127, 1128, 1129, 1130] (by decide +kernel) (by decide +kernel)) (goodIn_sub (fun _ h => List.mem_append_left _ (List.mem_append_left _ (List.mem_append_left _ (List.mem_append_left _ (List.mem_append_left _ (List.mem_append_left _ (List.mem_append_right _ h))))))) (by decide +kernel))) (goodIn_sub (fun _ h => List.mem_append_left _ (List.mem_append_left _ (List.mem_append_left _ (List.mem_append_left _ (List.mem_append_left _ (List.mem_append_right _ h)))))) (by decide +kernel))
set_option maxRecDepth 20000 in
theorem gL_law_L_pass : GoodIn wsL_law (va_wsS RL 143 yL_pass wsL_pass) := goodIn_app (goodIn_of _ (by decide +kernel)) ggL_law_L_pass
set_option maxRecDepth 20000 in
theorem ggL_law_X9_pass : GoodIn wsL_law wsX9_pass := goodIn_ca (goodIn_ca (goodIn_r _ [549, 283, 430, 187, 188, 284, 550, 285, 286, 5, 287, 288, 289, 290, 291, 551, 552, 553, 554, 555, 556, 557, 558, 559, 560, 561, 189, 562, 563, 564, 565, 190, 194, 196, 566, 197, 567, 568, 569, 570, 571, 572, 573, 574, 575, 576, 195, 577, 578, 579, 580, 193, 1087, 1088, 1089, 1090, 1091, 1092, 1093, 1094, 1095, 1096, 1097, 1098, 1099, 1100, 1101, 1102, 1103, 1104, 1105, 1106, 1107, 1108, 1109, 1110, 1111, 1112] (by decide +kernel) (by decide +kernel)) (goodIn_sub (fun _ h => List.mem_append_left _ (List.mem_append_left _ (List.mem_append_left _ (List.mem_append_right _ h)))) (by decide +kernel))) (goodIn_sub (fun _ h => List.mem_append_left _ (List.mem_append_left _ (List.mem_append_left _ (List.mem_append_left _ (List.mem_append_left _ (List.mem_append_left _ (List.mem_append_right _ h))))))) (by decide +kernel))
set_option maxRecDepth 20000 in
theorem gL_law_X9_pass : GoodIn wsL_law (wsV RL 145 RX9 yX9_pass wsX9_pass) := goodIn_app (goodIn_of _ (by decide +kernel)) ggL_law_X9_pass
set_option maxRecDepth 20000 in
theorem ggL_law_X8_beats : GoodIn wsL_law wsX8_beats := goodIn_r _ [584, 36, 1078, 1079, 1080, 1081, 1082, 1083, 1084, 1085, 1086] (by decide +kernel) (by decide +kernel)
set_option maxRecDepth 20000 in
theorem gL_law_X8_beats : GoodIn wsL_law (wsV RL 146 RX8 yX8_beats wsX8_beats) := goodIn_app (goodIn_of _ (by decide +kernel)) ggL_law_X8_beats
set_option maxRecDepth 20000 in
theorem ggL_law_X9_beats : GoodIn wsL_law wsX9_beats := goodIn_r _ [588, 284, 1087, 1088, 1089, 1090, 1091, 1092, 1093, 1094, 1095, 1096, 1097, 1098, 1099, 1100, 1101, 1102, 1103, 1104, 1105, 1106, 1107, 1108, 1109, 1110, 1111, 1112] (by decide +kernel) (by decide +kernel)
set_option maxRecDepth 20000 in
theorem gL_law_X9_beats : GoodIn wsL_law (wsV RL 150 RX9 yX9_beats wsX9_beats) := goodIn_app (goodIn_of _ (by decide +kernel)) ggL_law_X9_beats
set_option maxRecDepth 20000 in
theorem ggL_law_X8_shown : GoodIn wsL_law wsX8_shown := goodIn_r _ [592, 25, 479, 480, 481, 24, 482, 136, 1078, 1079, 1080, 1081, 1082, 1083, 1084, 1085, 1086, 1117, 1118, 1119, 1120] (by decide +kernel) (by decide +kernel)
set_option maxRecDepth 20000 in
theorem gL_law_X8_shown : GoodIn wsL_law (wsV RL 151 RX8 yX8_shown wsX8_shown) := goodIn_app (goodIn_of _ (by decide +kernel)) ggL_law_X8_shown
set_option maxRecDepth 20000 in
theorem ggL_law_X9_shown : GoodIn wsL_law wsX9_shown := goodIn_r _ [596, 559, 1087, 1088, 1089, 1090, 1091, 1092, 1093, 1094, 1095, 1096, 1097, 1098, 1099, 1100, 1101, 1102, 1103, 1104, 1105, 1106, 1107, 1108, 1109, 1110, 1111, 1112] (by decide +kernel) (by decide +kernel)
set_option maxRecDepth 20000 in
theorem gL_law_X9_shown : GoodIn wsL_law (wsV RL 154 RX9 yX9_shown wsX9_shown) := goodIn_app (goodIn_of _ (by decide +kernel)) ggL_law_X9_shown
set_option maxRecDepth 20000 in
theorem ggL_law_X8_hour : GoodIn wsL_law wsX8_hour := goodIn_r _ [600, 25, 479, 480, 481, 24, 482, 136, 601, 487, 2, 488, 489, 490, 277, 491, 492, 457, 458, 1078, 1079, 1080, 1081, 1082, 1083, 1084, 1085, 1086, 1117, 1118, 1119, 1120] (by decide +kernel) (by decide +kernel)
set_option maxRecDepth 20000 in
theorem gL_law_X8_hour : GoodIn wsL_law (wsV RL 155 RX8 yX8_hour wsX8_hour) := goodIn_app (goodIn_of _ (by decide +kernel)) ggL_law_X8_hour
set_option maxRecDepth 20000 in
theorem ggL_law_X9_hour : GoodIn wsL_law wsX9_hour := goodIn_r _ [605, 559, 1087, 1088, 1089, 1090, 1091, 1092, 1093, 1094, 1095, 1096, 1097, 1098, 1099, 1100, 1101, 1102, 1103, 1104, 1105, 1106, 1107, 1108, 1109, 1110, 1111, 1112] (by decide +kernel) (by decide +kernel)
set_option maxRecDepth 20000 in
theorem gL_law_X9_hour : GoodIn wsL_law (wsV RL 158 RX9 yX9_hour wsX9_hour) := goodIn_app (goodIn_of _ (by decide +kernel)) ggL_law_X9_hour
set_option maxRecDepth 20000 in
theorem ggL_law_X8_minute : GoodIn wsL_law wsX8_minute := goodIn_r _ [609, 25, 479, 480, 481, 24, 482, 136, 489, 490, 277, 491, 492, 457, 458, 1078, 1079, 1080, 1081, 1082, 1083, 1084, 1085, 1086, 1117, 1118, 1119, 1120] (by decide +kernel) (by decide +kernel)
set_option maxRecDepth 20000 in
theorem gL_law_X8_minute : GoodIn wsL_law (wsV RL 159 RX8 yX8_minute wsX8_minute) := goodIn_app (goodIn_of _ (by decide +kernel)) ggL_law_X8_minute
set_option maxRecDepth 20000 in
theorem ggL_law_X9_minute : GoodIn wsL_law wsX9_minute := goodIn_r _ [613, 559, 1087, 1088, 1089, 1090, 1091, 1092, 1093, 1094, 1095, 1096, 1097, 1098, 1099, 1100, 1101, 1102, 1103, 1104, 1105, 1106, 1107, 1108, 1109, 1110, 1111, 1112] (by decide +kernel) (by decide +kernel)
set_option maxRecDepth 20000 in
theorem gL_law_X9_minute : GoodIn wsL_law (wsV RL 162 RX9 yX9_minute wsX9_minute) := goodIn_app (goodIn_of _ (by decide +kernel)) ggL_law_X9_minute
set_option maxRecDepth 20000 in
theorem ggL_law_L_owe : GoodIn wsL_law wsL_owe := goodIn_ca (goodIn_ca (goodIn_r _ [616, 217, 617, 618, 619, 2, 620, 223, 224, 25, 227, 177, 178, 621, 622, 623, 24, 624, 137, 625, 626, 627, 628, 1078, 1079, 1080, 1081, 1082, 1083, 1084, 1085, 1086, 1117, 1118, 1119, 1120] (by decide +kernel) (by decide +kernel)) (goodIn_sub (fun _ h => List.mem_append_left _ (List.mem_append_left _ (List.mem_append_left _ (List.mem_append_left _ (List.mem_append_left _ (List.mem_append_left _ (List.mem_append_right _ h))))))) (by decide +kernel))) (goodIn_sub (fun _ h => List.mem_append_left _ (List.mem_append_left _ (List.mem_append_left _ (List.mem_append_left _ (List.mem_append_left _ (List.mem_append_right _ h)))))) (by decide +kernel))
set_option maxRecDepth 20000 in
theorem gL_law_L_owe : GoodIn wsL_law (va_wsS RL 163 yL_owe wsL_owe) := goodIn_app (goodIn_of _ (by decide +kernel)) ggL_law_L_owe
set_option maxRecDepth 20000 in
theorem ggL_law_X9_owe : GoodIn wsL_law wsX9_owe := goodIn_r _ [632, 561, 283, 285, 286, 5, 287, 288, 289, 290, 291, 1087, 1088, 1089, 1090, 1091, 1092, 1093, 1094, 1095, 1096, 1097, 1098, 1099, 1100, 1101, 1102, 1103, 1104, 1105, 1106, 1107, 1108, 1109, 1110, 1111, 1112] (by decide +kernel) (by decide +kernel)
set_option maxRecDepth 20000 in
theorem gL_law_X9_owe : GoodIn wsL_law (wsV RL 165 RX9 yX9_owe wsX9_owe) := goodIn_app (goodIn_of _ (by decide +kernel)) ggL_law_X9_owe
set_option maxRecDepth 20000 in
theorem ggL_law_L_setBound : GoodIn wsL_law wsL_setBound := goodIn_ca (goodIn_ca (goodIn_r _ [635, 217, 636, 637, 638, 2, 639, 223, 224, 25, 227, 177, 178, 640, 641, 642, 24, 643, 138, 1078, 1079, 1080, 1081, 1082, 1083, 1084, 1085, 1086, 1117, 1118, 1119, 1120] (by decide +kernel) (by decide +kernel)) (goodIn_sub (fun _ h => List.mem_append_left _ (List.mem_append_left _ (List.mem_append_left _ (List.mem_append_left _ (List.mem_append_left _ (List.mem_append_left _ (List.mem_append_right _ h))))))) (by decide +kernel))) (goodIn_sub (fun _ h => List.mem_append_left _ (List.mem_append_left _ (List.mem_append_left _ (List.mem_append_left _ (List.mem_append_left _ (List.mem_append_right _ h)))))) (by decide +kernel))
set_option maxRecDepth 20000 in
theorem gL_law_L_setBound : GoodIn wsL_law (va_wsS RL 166 yL_setBound wsL_setBound) := goodIn_app (goodIn_of _ (by decide +kernel)) ggL_law_L_setBound
set_option maxRecDepth 20000 in
theorem ggL_law_X9_setBound : GoodIn wsL_law wsX9_setBound := goodIn_r _ [647, 283, 189, 285, 286, 5, 287, 288, 289, 290, 291, 1087, 1088, 1089, 1090, 1091, 1092, 1093, 1094, 1095, 1096, 1097, 1098, 1099, 1100, 1101, 1102, 1103, 1104, 1105, 1106, 1107, 1108, 1109, 1110, 1111, 1112] (by decide +kernel) (by decide +kernel)
set_option maxRecDepth 20000 in
theorem gL_law_X9_setBound : GoodIn wsL_law (wsV RL 168 RX9 yX9_setBound wsX9_setBound) := goodIn_app (goodIn_of _ (by decide +kernel)) ggL_law_X9_setBound
set_option maxRecDepth 20000 in
theorem ggL_law_L_setDate : GoodIn wsL_law wsL_setDate := goodIn_ca (goodIn_ca (goodIn_r _ [650, 217, 651, 652, 653, 2, 654, 223, 224, 37, 655, 656, 657, 658, 659, 660, 164, 661, 177, 178, 662, 663, 664, 665, 179, 180, 181, 162, 163, 165, 166, 167, 168, 169, 170, 171, 172, 173, 174, 175, 176, 666, 667, 668, 669, 25, 670, 479, 480, 481, 24, 482, 136, 489, 490, 277, 491, 671, 672, 673, 674, 675, 676, 677, 1078, 1079, 1080, 1081, 1082, 1083, 1084, 1085, 1086, 1117, 1118, 1119, 1120] (by decide +kernel) (by decide +kernel)) (goodIn_sub (fun _ h => List.mem_append_left _ (List.mem_append_left _ (List.mem_append_left _ (List.mem_append_left _ (List.mem_append_left _ (List.mem_append_left _ (List.mem_append_right _ h))))))) (by decide +kernel))) (goodIn_sub (fun _ h => List.mem_append_left _ (List.mem_append_left _ (List.mem_append_left _ (List.mem_append_left _ (List.mem_append_left _ (List.mem_append_right _ h)))))) (by decide +kernel))
set_option maxRecDepth 20000 in
theorem gL_law_L_setDate : GoodIn wsL_law (va_wsS RL 169 yL_setDate wsL_setDate) := goodIn_app (goodIn_of _ (by decide +kernel)) ggL_law_L_setDate
set_option maxRecDepth 20000 in
theorem ggL_law_X9_setDate : GoodIn wsL_law wsX9_setDate := goodIn_r _ [681, 283, 559, 682, 199, 683, 684, 5, 685, 285, 286, 287, 207, 208, 209, 210, 211, 212, 288, 289, 290, 291, 200, 201, 202, 203, 204, 205, 206, 686, 687, 688, 689, 690, 691, 692, 693, 694, 1087, 1088, 1089, 1090, 1091, 1092, 1093, 1094, 1095, 1096, 1097, 1098, 1099, 1100, 1101, 1102, 1103, 1104, 1105, 1106, 1107, 1108, 1109, 1110, 1111, 1112] (by decide +kernel) (by decide +kernel)
set_option maxRecDepth 20000 in
theorem gL_law_X9_setDate : GoodIn wsL_law (wsV RL 172 RX9 yX9_setDate wsX9_setDate) := goodIn_app (goodIn_of _ (by decide +kernel)) ggL_law_X9_setDate
set_option maxRecDepth 20000 in
theorem ggL_law_X8_year : GoodIn wsL_law wsX8_year := goodIn_r _ [698, 699, 700, 701, 2, 702, 37, 666, 667, 668, 669, 25, 670, 479, 480, 481, 24, 482, 136, 489, 490, 277, 491, 703, 704, 164, 705, 706, 707, 708, 709, 710, 93, 711, 712, 169, 172, 171, 170, 1078, 1079, 1080, 1081, 1082, 1083, 1084, 1085, 1086, 1117, 1118, 1119, 1120] (by decide +kernel) (by decide +kernel)
set_option maxRecDepth 20000 in
theorem gL_law_X8_year : GoodIn wsL_law (wsV RL 173 RX8 yX8_year wsX8_year) := goodIn_app (goodIn_of _ (by decide +kernel)) ggL_law_X8_year
set_option maxRecDepth 20000 in
theorem ggL_law_X9_year : GoodIn wsL_law wsX9_year := goodIn_r _ [716, 717, 691, 692, 693, 5, 694, 199, 559, 682, 203, 204, 205, 206, 1087, 1088, 1089, 1090, 1091, 1092, 1093, 1094, 1095, 1096, 1097, 1098, 1099, 1100, 1101, 1102, 1103, 1104, 1105, 1106, 1107, 1108, 1109, 1110, 1111, 1112] (by decide +kernel) (by decide +kernel)
set_option maxRecDepth 20000 in
theorem gL_law_X9_year : GoodIn wsL_law (wsV RL 176 RX9 yX9_year wsX9_year) := goodIn_app (goodIn_of _ (by decide +kernel)) ggL_law_X9_year
set_option maxRecDepth 20000 in
theorem ggL_law_X8_month : GoodIn wsL_law wsX8_month := goodIn_ca (goodIn_r _ [721, 699, 700, 701, 2, 702, 37, 666, 667, 668, 669, 25, 670, 479, 480, 481, 24, 482, 136, 489, 490, 277, 491, 722, 723, 164, 724, 725, 704, 705, 706, 707, 708, 709, 710, 93, 711, 712, 169, 172, 171, 170, 166, 167, 168, 173, 174, 175, 176, 177, 178, 179, 180, 181, 1078, 1079, 1080, 1081, 1082, 1083, 1084, 1085, 1086, 1117, 1118, 1119, 1120] (by decide +kernel) (by decide +kernel)) (goodIn_sub (fun _ h => List.mem_append_left _ (List.mem_append_left _ (List.mem_append_left _ (List.mem_append_left _ (List.mem_append_left _ (List.mem_append_left _ (List.mem_append_right _ h))))))) (by decide +kernel))
set_option maxRecDepth 20000 in
theorem gL_law_X8_month : GoodIn wsL_law (wsV RL 177 RX8 yX8_month wsX8_month) := goodIn_app (goodIn_of _ (by decide +kernel)) ggL_law_X8_month
set_option maxRecDepth 20000 in
theorem ggL_law_X9_month : GoodIn wsL_law wsX9_month := goodIn_r _ [729, 730, 714, 715, 5, 716, 717, 691, 692, 693, 694, 199, 559, 682, 203, 204, 205, 206, 207, 208, 209, 210, 211, 212, 200, 201, 202, 1087, 1088, 1089, 1090, 1091, 1092, 1093, 1094, 1095, 1096, 1097, 1098, 1099, 1100, 1101, 1102, 1103, 1104, 1105, 1106, 1107, 1108, 1109, 1110, 1111, 1112] (by decide +kernel) (by decide +kernel)
set_option maxRecDepth 20000 in
theorem gL_law_X9_month : GoodIn wsL_law (wsV RL 180 RX9 yX9_month wsX9_month) := goodIn_app (goodIn_of _ (by decide +kernel)) ggL_law_X9_month
set_option maxRecDepth 20000 in
theorem ggL_law_X8_day : GoodIn wsL_law wsX8_day := goodIn_ca (goodIn_r _ [734, 699, 700, 701, 2, 702, 37, 666, 667, 668, 669, 25, 670, 479, 480, 481, 24, 482, 136, 489, 490, 277, 491, 735, 736, 164, 737, 725, 704, 705, 706, 707, 708, 709, 710, 93, 711, 712, 169, 172, 171, 170, 166, 167, 168, 738, 723, 724, 173, 174, 175, 176, 177, 178, 179, 180, 181, 1078, 1079, 1080, 1081, 1082, 1083, 1084, 1085, 1086, 1117, 1118, 1119, 1120] (by decide +kernel) (by decide +kernel)) (goodIn_sub (fun _ h => List.mem_append_left _ (List.mem_append_left _ (List.mem_append_left _ (List.mem_append_left _ (List.mem_append_left _ (List.mem_append_left _ (List.mem_append_right _ h))))))) (by decide +kernel))
set_option maxRecDepth 20000 in
theorem gL_law_X8_day : GoodIn wsL_law (wsV RL 181 RX8 yX8_day wsX8_day) := goodIn_app (goodIn_of _ (by decide +kernel)) ggL_law_X8_day
set_option maxRecDepth 20000 in
theorem ggL_law_X9_day : GoodIn wsL_law wsX9_day := goodIn_r _ [742, 691, 692, 693, 5, 694, 199, 559, 682, 730, 714, 715, 716, 717, 203, 204, 205, 206, 743, 727, 728, 729, 207, 208, 209, 210, 211, 212, 200, 201, 202, 1087, 1088, 1089, 1090, 1091, 1092, 1093, 1094, 1095, 1096, 1097, 1098, 1099, 1100, 1101, 1102, 1103, 1104, 1105, 1106, 1107, 1108, 1109, 1110, 1111, 1112] (by decide +kernel) (by decide +kernel)
set_option maxRecDepth 20000 in
theorem gL_law_X9_day : GoodIn wsL_law (wsV RL 184 RX9 yX9_day wsX9_day) := goodIn_app (goodIn_of _ (by decide +kernel)) ggL_law_X9_day
set_option maxRecDepth 20000 in
theorem ggL_law_X8_weekday : GoodIn wsL_law wsX8_weekday := goodIn_r _ [747, 699, 700, 701, 2, 702, 37, 666, 667, 668, 669, 25, 670, 479, 480, 481, 24, 482, 136, 489, 490, 277, 491, 671, 672, 164, 673, 674, 675, 676, 677, 1078, 1079, 1080, 1081, 1082, 1083, 1084, 1085, 1086, 1117, 1118, 1119, 1120] (by decide +kernel) (by decide +kernel)
set_option maxRecDepth 20000 in
theorem gL_law_X8_weekday : GoodIn wsL_law (wsV RL 185 RX8 yX8_weekday wsX8_weekday) := goodIn_app (goodIn_of _ (by decide +kernel)) ggL_law_X8_weekday
set_option maxRecDepth 20000 in
theorem ggL_law_X9_weekday : GoodIn wsL_law wsX9_weekday := goodIn_r _ [689, 690, 691, 692, 693, 5, 694, 199, 559, 682, 1087, 1088, 1089, 1090, 1091, 1092, 1093, 1094, 1095, 1096, 1097, 1098, 1099, 1100, 1101, 1102, 1103, 1104, 1105, 1106, 1107, 1108, 1109, 1110, 1111, 1112] (by decide +kernel) (by decide +kernel)
set_option maxRecDepth 20000 in
theorem gL_law_X9_weekday : GoodIn wsL_law (wsV RL 188 RX9 yX9_weekday wsX9_weekday) := goodIn_app (goodIn_of _ (by decide +kernel)) ggL_law_X9_weekday
set_option maxRecDepth 20000 in
theorem ggL_law_L_isLeap : GoodIn wsL_law wsL_isLeap := goodIn_ca (goodIn_ca (goodIn_r _ [751, 217, 752, 753, 754, 2, 755, 223, 224, 227, 177, 178, 756, 180, 164, 181] (by decide +kernel) (by decide +kernel)) (goodIn_sub (fun _ h => List.mem_append_left _ (List.mem_append_left _ (List.mem_append_left _ (List.mem_append_left _ (List.mem_append_left _ (List.mem_append_left _ (List.mem_append_right _ h))))))) (by decide +kernel))) (goodIn_sub (fun _ h => List.mem_append_left _ (List.mem_append_left _ (List.mem_append_left _ (List.mem_append_left _ (List.mem_append_left _ (List.mem_append_right _ h)))))) (by decide +kernel))
set_option maxRecDepth 20000 in
theorem gL_law_L_isLeap : GoodIn wsL_law (va_wsS RL 189 yL_isLeap wsL_isLeap) := goodIn_app (goodIn_of _ (by decide +kernel)) ggL_law_L_isLeap
set_option maxRecDepth 20000 in
theorem ggL_law_X9_isLeap : GoodIn wsL_law wsX9_isLeap := goodIn_r _ [760, 283, 285, 286, 5, 287, 210, 211, 212, 1087, 1088, 1089, 1090, 1091, 1092, 1093, 1094, 1095, 1096, 1097, 1098, 1099, 1100, 1101, 1102, 1103, 1104, 1105, 1106, 1107, 1108, 1109, 1110, 1111, 1112] (by decide +kernel) (by decide +kernel)
set_option maxRecDepth 20000 in
theorem gL_law_X9_isLeap : GoodIn wsL_law (wsV RL 191 RX9 yX9_isLeap wsX9_isLeap) := goodIn_app (goodIn_of _ (by decide +kernel)) ggL_law_X9_isLeap
set_option maxRecDepth 20000 in
theorem ggL_law_L_numberOf : GoodIn wsL_law wsL_numberOf := goodIn_ca (goodIn_ca (goodIn_r _ [763, 217, 764, 765, 766, 2, 767, 655, 656, 657, 658, 223, 224, 659, 660, 164, 661, 177, 178, 662, 663, 664, 665, 179, 180, 181, 162, 163, 165, 166, 167, 168, 169, 170, 171, 172, 173, 174, 175, 176] (by decide +kernel) (by decide +kernel)) (goodIn_sub (fun _ h => List.mem_append_left _ (List.mem_append_left _ (List.mem_append_left _ (List.mem_append_left _ (List.mem_append_left _ (List.mem_append_left _ (List.mem_append_right _ h))))))) (by decide +kernel))) (goodIn_sub (fun _ h => List.mem_append_left _ (List.mem_append_left _ (List.mem_append_left _ (List.mem_append_left _ (List.mem_append_left _ (List.mem_append_right _ h)))))) (by decide +kernel))
set_option maxRecDepth 20000 in
theorem gL_law_L_numberOf : GoodIn wsL_law (va_wsS RL 192 yL_numberOf wsL_numberOf) := goodIn_app (goodIn_of _ (by decide +kernel)) ggL_law_L_numberOf
set_option maxRecDepth 20000 in
theorem ggL_law_X9_numberOf : GoodIn wsL_law wsX9_numberOf := goodIn_r _ [771, 283, 683, 684, 5, 685, 285, 286, 287, 207, 208, 209, 210, 211, 212, 200, 201, 202, 203, 204, 205, 206, 1087, 1088, 1089, 1090, 1091, 1092, 1093, 1094, 1095, 1096, 1097, 1098, 1099, 1100, 1101, 1102, 1103, 1104, 1105, 1106, 1107, 1108, 1109, 1110, 1111, 1112] (by decide +kernel) (by decide +kernel)
set_option maxRecDepth 20000 in
theorem gL_law_X9_numberOf : GoodIn wsL_law (wsV RL 194 RX9 yX9_numberOf wsX9_numberOf) := goodIn_app (goodIn_of _ (by decide +kernel)) ggL_law_X9_numberOf
set_option maxRecDepth 20000 in
theorem ggL_law_L_numberByCounting : GoodIn wsL_law wsL_numberByCounting := goodIn_ca (goodIn_ca (goodIn_r _ [774, 217, 775, 776, 777, 2, 778, 655, 656, 657, 658, 223, 224, 659, 660, 164, 661, 177, 178, 662, 663, 664, 665, 179, 180, 181, 779, 780, 781, 782, 169] (by decide +kernel) (by decide +kernel)) (goodIn_sub (fun _ h => List.mem_append_left _ (List.mem_append_left _ (List.mem_append_left _ (List.mem_append_left _ (List.mem_append_left _ (List.mem_append_left _ (List.mem_append_right _ h))))))) (by decide +kernel))) (goodIn_sub (fun _ h => List.mem_append_left _ (List.mem_append_left _ (List.mem_append_left _ (List.mem_append_left _ (List.mem_append_left _ (List.mem_append_right _ h)))))) (by decide +kernel))
set_option maxRecDepth 20000 in
theorem gL_law_L_numberByCounting : GoodIn wsL_law (va_wsS RL 195 yL_numberByCounting wsL_numberByCounting) := goodIn_app (goodIn_of _ (by decide +kernel)) ggL_law_L_numberByCounting
set_option maxRecDepth 20000 in
theorem ggL_law_X9_numberByCounting : GoodIn wsL_law wsX9_numberByCounting := goodIn_r _ [786, 787, 769, 770, 5, 771, 283, 683, 684, 685, 285, 286, 287, 207, 208, 209, 210, 211, 212, 200, 201, 202, 203, 204, 205, 206, 1087, 1088, 1089, 1090, 1091, 1092, 1093, 1094, 1095, 1096, 1097, 1098, 1099, 1100, 1101, 1102, 1103, 1104, 1105, 1106, 1107, 1108, 1109, 1110, 1111, 1112] (by decide +kernel) (by decide +kernel)
set_option maxRecDepth 20000 in
theorem gL_law_X9_numberByCounting : GoodIn wsL_law (wsV RL 197 RX9 yX9_numberByCounting wsX9_numberByCounting) := goodIn_app (goodIn_of _ (by decide +kernel)) ggL_law_X9_numberByCounting
set_option maxRecDepth 20000 in
theorem ggL_law_L_setSilence : GoodIn wsL_law wsL_setSilence := goodIn_ca (goodIn_ca (goodIn_r _ [790, 217, 791, 792, 793, 2, 794, 223, 224, 29, 795, 796, 797, 227, 177, 178, 798, 799, 800, 28, 801, 150, 151, 500, 457, 277, 458, 1078, 1079, 1080, 1081, 1082, 1083, 1084, 1085, 1086, 1121, 1122, 1123, 1124, 1125, 1126] (by decide +kernel) (by decide +kernel)) (goodIn_sub (fun _ h => List.mem_append_left _ (List.mem_append_left _ (List.mem_append_left _ (List.mem_append_left _ (List.mem_append_left _ (List.mem_append_left _ (List.mem_append_right _ h))))))) (by decide +kernel))) (goodIn_sub (fun _ h => List.mem_append_left _ (List.mem_append_left _ (List.mem_append_left _ (List.mem_append_left _ (List.mem_append_left _ (List.mem_append_right _ h)))))) (by decide +kernel))
set_option maxRecDepth 20000 in
theorem gL_law_L_setSilence : GoodIn wsL_law (va_wsS RL 198 yL_setSilence wsL_setSilence) := goodIn_app (goodIn_of _ (by decide +kernel)) ggL_law_L_setSilence
set_option maxRecDepth 20000 in
theorem ggL_law_X9_setSilence : GoodIn wsL_law wsX9_setSilence := goodIn_r _ [805, 283, 571, 572, 285, 286, 5, 287, 288, 289, 290, 291, 1087, 1088, 1089, 1090, 1091, 1092, 1093, 1094, 1095, 1096, 1097, 1098, 1099, 1100, 1101, 1102, 1103, 1104, 1105, 1106, 1107, 1108, 1109, 1110, 1111, 1112] (by decide +kernel) (by decide +kernel)
set_option maxRecDepth 20000 in
theorem gL_law_X9_setSilence : GoodIn wsL_law (wsV RL 200 RX9 yX9_setSilence wsX9_setSilence) := goodIn_app (goodIn_of _ (by decide +kernel)) ggL_law_X9_setSilence
set_option maxRecDepth 20000 in
theorem ggL_law_X8_setQuarters : GoodIn wsL_law wsX8_setQuarters := goodIn_r _ [809, 29, 810, 811, 812, 28, 813, 152, 1078, 1079, 1080, 1081, 1082, 1083, 1084, 1085, 1086, 1121, 1122, 1123, 1124, 1125, 1126] (by decide +kernel) (by decide +kernel)
set_option maxRecDepth 20000 in
theorem gL_law_X8_setQuarters : GoodIn wsL_law (wsV RL 201 RX8 yX8_setQuarters wsX8_setQuarters) := goodIn_app (goodIn_of _ (by decide +kernel)) ggL_law_X8_setQuarters
set_option maxRecDepth 20000 in
theorem ggL_law_X9_setQuarters : GoodIn wsL_law wsX9_setQuarters := goodIn_r _ [817, 190, 1087, 1088, 1089, 1090, 1091, 1092, 1093, 1094, 1095, 1096, 1097, 1098, 1099, 1100, 1101, 1102, 1103, 1104, 1105, 1106, 1107, 1108, 1109, 1110, 1111, 1112] (by decide +kernel) (by decide +kernel)
set_option maxRecDepth 20000 in
theorem gL_law_X9_setQuarters : GoodIn wsL_law (wsV RL 205 RX9 yX9_setQuarters wsX9_setQuarters) := goodIn_app (goodIn_of _ (by decide +kernel)) ggL_law_X9_setQuarters
set_option maxRecDepth 20000 in
theorem ggL_law_L_addDrum : GoodIn wsL_law wsL_addDrum := goodIn_ca (goodIn_ca (goodIn_r _ [820, 218, 821, 822, 823, 2, 824, 225, 226, 29, 825, 826, 827, 28, 828, 145, 829, 233, 234, 44, 235, 78, 830, 831, 832, 833, 146, 834, 511, 835, 836, 837, 838, 12, 13, 839, 148, 526, 513, 840, 73, 74, 75, 76, 77, 53, 79, 80, 81, 82, 83, 84, 85, 86, 87, 88, 89, 90, 52, 91, 92, 93, 94, 95, 96, 97, 98, 99, 100, 101, 102, 103, 104, 105, 106, 107, 108, 109, 110, 111, 112, 113, 114, 115, 116, 117, 118, 119, 120, 121, 122, 123, 124, 1078, 1079, 1080, 1081, 1082, 1083, 1084, 1085, 1086, 1121, 1122, 1123, 1124, 1125, 1126, 1131, 1132, 1133, 1139, 1140, 1141] (by decide +kernel) (by decide +kernel)) (goodIn_sub (fun _ h => List.mem_append_left _ (List.mem_append_left _ (List.mem_append_left _ (List.mem_append_left _ (List.mem_append_left _ (List.mem_append_left _ (List.mem_append_right _ h))))))) (by decide +kernel))) (goodIn_sub (fun _ h => List.mem_append_left _ (List.mem_append_left _ (List.mem_append_left _ (List.mem_append_left _ (List.mem_append_right _ h))))) (by decide +kernel))
set_option maxRecDepth 20000 in
theorem gL_law_L_addDrum : GoodIn wsL_law (va_wsS RL 206 yL_addDrum wsL_addDrum) := goodIn_app (goodIn_of _ (by decide +kernel)) ggL_law_L_addDrum
set_option maxRecDepth 20000 in
theorem ggL_law_X9_addDrum : GoodIn wsL_law wsX9_addDrum := goodIn_r _ [844, 845, 283, 288, 289, 290, 5, 291, 1087, 1088, 1089, 1090, 1091, 1092, 1093, 1094, 1095, 1096, 1097, 1098, 1099, 1100, 1101, 1102, 1103, 1104, 1105, 1106, 1107, 1108, 1109, 1110, 1111, 1112] (by decide +kernel) (by decide +kernel)
set_option maxRecDepth 20000 in
theorem gL_law_X9_addDrum : GoodIn wsL_law (wsV RL 209 RX9 yX9_addDrum wsX9_addDrum) := goodIn_app (goodIn_of _ (by decide +kernel)) ggL_law_X9_addDrum
set_option maxRecDepth 20000 in
theorem ggL_law_L_setPin : GoodIn wsL_law wsL_setPin := goodIn_ca (goodIn_ca (goodIn_ca (goodIn_r _ [848, 311, 217, 849, 850, 851, 2, 852, 223, 224, 853, 854, 855, 856, 320, 321, 29, 857, 858, 859, 28, 860, 145, 861, 829, 233, 234, 44, 235, 78, 862, 246, 247, 248, 249, 250, 251, 252, 253, 254, 255, 256, 257, 258, 259, 260, 53, 227, 177, 178, 863, 864, 865, 511, 866, 526, 513, 522, 523, 524, 525, 1078, 1079, 1080, 1081, 1082, 1083, 1084, 1085, 1086, 1121, 1122, 1123, 1124, 1125, 1126, 1131, 1132, 1133, 1139, 1140, 1141] (by decide +kernel) (by decide +kernel)) (goodIn_sub (fun _ h => List.mem_append_left _ (List.mem_append_left _ (List.mem_append_left _ (List.mem_append_left _ (List.mem_append_left _ (List.mem_append_left _ (List.mem_append_right _ h))))))) (by decide +kernel))) (goodIn_sub (fun _ h => List.mem_append_left _ (List.mem_append_left _ (List.mem_append_left _ (List.mem_append_left _ (List.mem_append_left _ (List.mem_append_right _ h)))))) (by decide +kernel))) (goodIn_sub (fun _ h => List.mem_append_left _ (List.mem_append_left _ (List.mem_append_right _ h))) (by decide +kernel))
set_option maxRecDepth 20000 in
theorem gL_law_L_setPin : GoodIn wsL_law (va_wsS RL 210 yL_setPin wsL_setPin) := goodIn_app (goodIn_of _ (by decide +kernel)) ggL_law_L_setPin
set_option maxRecDepth 20000 in
theorem ggL_law_X9_setPin : GoodIn wsL_law wsX9_setPin := goodIn_ca (goodIn_r _ [870, 283, 193, 871, 872, 873, 5, 874, 845, 285, 286, 287, 1087, 1088, 1089, 1090, 1091, 1092, 1093, 1094, 1095, 1096, 1097, 1098, 1099, 1100, 1101, 1102, 1103, 1104, 1105, 1106, 1107, 1108, 1109, 1110, 1111, 1112] (by decide +kernel) (by decide +kernel)) (goodIn_sub (fun _ h => List.mem_append_left _ (List.mem_append_left _ (List.mem_append_left _ (List.mem_append_left _ (List.mem_append_left _ (List.mem_append_left _ (List.mem_append_right _ h))))))) (by decide +kernel))
set_option maxRecDepth 20000 in
theorem gL_law_X9_setPin : GoodIn wsL_law (wsV RL 213 RX9 yX9_setPin wsX9_setPin) := goodIn_app (goodIn_of _ (by decide +kernel)) ggL_law_X9_setPin
set_option maxRecDepth 20000 in
theorem ggL_law_L_pins : GoodIn wsL_law wsL_pins := goodIn_ca (goodIn_ca (goodIn_r _ [877, 311, 878, 879, 880, 2, 881, 853, 854, 855, 856, 320, 321, 29, 857, 858, 859, 28, 860, 145, 861, 829, 233, 234, 44, 235, 78, 862, 246, 247, 248, 249, 250, 251, 252, 253, 254, 255, 256, 257, 258, 259, 260, 53, 882, 509, 510, 511, 512, 513, 1078, 1079, 1080, 1081, 1082, 1083, 1084, 1085, 1086, 1121, 1122, 1123, 1124, 1125, 1126, 1131, 1132, 1133, 1139, 1140, 1141] (by decide +kernel) (by decide +kernel)) (goodIn_sub (fun _ h => List.mem_append_left _ (List.mem_append_left _ (List.mem_append_left _ (List.mem_append_left _ (List.mem_append_left _ (List.mem_append_left _ (List.mem_append_right _ h))))))) (by decide +kernel))) (goodIn_sub (fun _ h => List.mem_append_left _ (List.mem_append_left _ (List.mem_append_right _ h))) (by decide +kernel))
set_option maxRecDepth 20000 in
theorem gL_law_L_pins : GoodIn wsL_law (va_wsS RL 214 yL_pins wsL_pins) := goodIn_app (goodIn_of _ (by decide +kernel)) ggL_law_L_pins
set_option maxRecDepth 20000 in
theorem ggL_law_X9_pins : GoodIn wsL_law wsX9_pins := goodIn_ca (goodIn_r _ [886, 193, 871, 872, 873, 5, 874, 845, 283, 285, 286, 287, 887, 888, 889, 890, 891, 892, 893, 1087, 1088, 1089, 1090, 1091, 1092, 1093, 1094, 1095, 1096, 1097, 1098, 1099, 1100, 1101, 1102, 1103, 1104, 1105, 1106, 1107, 1108, 1109, 1110, 1111, 1112] (by decide +kernel) (by decide +kernel)) (goodIn_sub (fun _ h => List.mem_append_left _ (List.mem_append_left _ (List.mem_append_left _ (List.mem_append_left _ (List.mem_append_left _ (List.mem_append_left _ (List.mem_append_right _ h))))))) (by decide +kernel))
set_option maxRecDepth 20000 in
theorem gL_law_X9_pins : GoodIn wsL_law (wsV RL 216 RX9 yX9_pins wsX9_pins) := goodIn_app (goodIn_of _ (by decide +kernel)) ggL_law_X9_pins
set_option maxRecDepth 20000 in
theorem ggL_law_L_bellAt : GoodIn wsL_law wsL_bellAt := goodIn_ca (goodIn_ca (goodIn_ca (goodIn_r _ [896, 311, 897, 898, 899, 900, 2, 901, 902, 903, 853, 854, 855, 856, 320, 321, 29, 857, 858, 859, 28, 860, 145, 861, 829, 233, 234, 44, 235, 78, 862, 246, 247, 248, 249, 250, 251, 252, 253, 254, 255, 256, 257, 258, 259, 260, 53, 882, 509, 510, 511, 512, 513, 227, 177, 178, 904, 905, 906, 907, 522, 523, 524, 525, 526, 1078, 1079, 1080, 1081, 1082, 1083, 1084, 1085, 1086, 1121, 1122, 1123, 1124, 1125, 1126, 1131, 1132, 1133, 1139, 1140, 1141] (by decide +kernel) (by decide +kernel)) (goodIn_sub (fun _ h => List.mem_append_left _ (List.mem_append_left _ (List.mem_append_left _ (List.mem_append_left _ (List.mem_append_left _ (List.mem_append_left _ (List.mem_append_right _ h))))))) (by decide +kernel))) (goodIn_sub (fun _ h => List.mem_append_left _ (List.mem_append_right _ h)) (by decide +kernel))) (goodIn_sub (fun _ h => List.mem_append_left _ (List.mem_append_left _ (List.mem_append_right _ h))) (by decide +kernel))
set_option maxRecDepth 20000 in
theorem gL_law_L_bellAt : GoodIn wsL_law (va_wsS RL 217 yL_bellAt wsL_bellAt) := goodIn_app (goodIn_of _ (by decide +kernel)) ggL_law_L_bellAt
set_option maxRecDepth 20000 in
theorem ggL_law_X9_bellAt : GoodIn wsL_law wsX9_bellAt := goodIn_ca (goodIn_r _ [911, 193, 871, 872, 873, 5, 874, 845, 283, 285, 286, 287, 288, 289, 290, 291, 1087, 1088, 1089, 1090, 1091, 1092, 1093, 1094, 1095, 1096, 1097, 1098, 1099, 1100, 1101, 1102, 1103, 1104, 1105, 1106, 1107, 1108, 1109, 1110, 1111, 1112] (by decide +kernel) (by decide +kernel)) (goodIn_sub (fun _ h => List.mem_append_left _ (List.mem_append_left _ (List.mem_append_left _ (List.mem_append_left _ (List.mem_append_left _ (List.mem_append_left _ (List.mem_append_right _ h))))))) (by decide +kernel))
set_option maxRecDepth 20000 in
theorem gL_law_X9_bellAt : GoodIn wsL_law (wsV RL 219 RX9 yX9_bellAt wsX9_bellAt) := goodIn_app (goodIn_of _ (by decide +kernel)) ggL_law_X9_bellAt
set_option maxRecDepth 20000 in
theorem ggL_law_L_setTune : GoodIn wsL_law wsL_setTune := goodIn_ca (goodIn_ca (goodIn_ca (goodIn_r _ [914, 217, 311, 915, 916, 917, 2, 918, 223, 224, 29, 795, 796, 797, 227, 177, 178, 853, 854, 855, 856, 320, 321, 857, 858, 859, 28, 860, 145, 861, 829, 233, 234, 44, 235, 78, 862, 246, 247, 248, 249, 250, 251, 252, 253, 254, 255, 256, 257, 258, 259, 260, 53, 919, 920, 921, 922, 147, 501, 502, 503, 504, 923, 924, 925, 511, 926, 839, 1078, 1079, 1080, 1081, 1082, 1083, 1084, 1085, 1086, 1121, 1122, 1123, 1124, 1125, 1126, 1131, 1132, 1133, 1139, 1140, 1141] (by decide +kernel) (by decide +kernel)) (goodIn_sub (fun _ h => List.mem_append_left _ (List.mem_append_left _ (List.mem_append_left _ (List.mem_append_left _ (List.mem_append_left _ (List.mem_append_left _ (List.mem_append_right _ h))))))) (by decide +kernel))) (goodIn_sub (fun _ h => List.mem_append_left _ (List.mem_append_left _ (List.mem_append_left _ (List.mem_append_left _ (List.mem_append_left _ (List.mem_append_right _ h)))))) (by decide +kernel))) (goodIn_sub (fun _ h => List.mem_append_left _ (List.mem_append_left _ (List.mem_append_right _ h))) (by decide +kernel))
set_option maxRecDepth 20000 in
theorem gL_law_L_setTune : GoodIn wsL_law (va_wsS RL 220 yL_setTune wsL_setTune) := goodIn_app (goodIn_of _ (by decide +kernel)) ggL_law_L_setTune
set_option maxRecDepth 20000 in
theorem ggL_law_X9_setTune : GoodIn wsL_law wsX9_setTune := goodIn_ca (goodIn_r _ [930, 845, 283, 194, 285, 286, 5, 287, 288, 289, 290, 291, 1087, 1088, 1089, 1090, 1091, 1092, 1093, 1094, 1095, 1096, 1097, 1098, 1099, 1100, 1101, 1102, 1103, 1104, 1105, 1106, 1107, 1108, 1109, 1110, 1111, 1112] (by decide +kernel) (by decide +kernel)) (goodIn_sub (fun _ h => List.mem_append_left _ (List.mem_append_left _ (List.mem_append_left _ (List.mem_append_left _ (List.mem_append_left _ (List.mem_append_left _ (List.mem_append_right _ h))))))) (by decide +kernel))
set_option maxRecDepth 20000 in
theorem gL_law_X9_setTune : GoodIn wsL_law (wsV RL 222 RX9 yX9_setTune wsX9_setTune) := goodIn_app (goodIn_of _ (by decide +kernel)) ggL_law_X9_setTune
set_option maxRecDepth 20000 in
theorem ggL_law_L_strokes : GoodIn wsL_law wsL_strokes := goodIn_ca (goodIn_ca (goodIn_r _ [933, 311, 934, 935, 936, 2, 937, 320, 321, 29, 227, 177, 178, 938, 939, 940, 28, 941, 149, 1078, 1079, 1080, 1081, 1082, 1083, 1084, 1085, 1086, 1121, 1122, 1123, 1124, 1125, 1126] (by decide +kernel) (by decide +kernel)) (goodIn_sub (fun _ h => List.mem_append_left _ (List.mem_append_left _ (List.mem_append_left _ (List.mem_append_left _ (List.mem_append_left _ (List.mem_append_left _ (List.mem_append_right _ h))))))) (by decide +kernel))) (goodIn_sub (fun _ h => List.mem_append_left _ (List.mem_append_left _ (List.mem_append_right _ h))) (by decide +kernel))
set_option maxRecDepth 20000 in
theorem gL_law_L_strokes : GoodIn wsL_law (va_wsS RL 223 yL_strokes wsL_strokes) := goodIn_app (goodIn_of _ (by decide +kernel)) ggL_law_L_strokes
set_option maxRecDepth 20000 in
theorem ggL_law_X9_strokes : GoodIn wsL_law wsX9_strokes := goodIn_ca (goodIn_r _ [945, 283, 195, 285, 286, 5, 287, 1087, 1088, 1089, 1090, 1091, 1092, 1093, 1094, 1095, 1096, 1097, 1098, 1099, 1100, 1101, 1102, 1103, 1104, 1105, 1106, 1107, 1108, 1109, 1110, 1111, 1112] (by decide +kernel) (by decide +kernel)) (goodIn_sub (fun _ h => List.mem_append_left _ (List.mem_append_left _ (List.mem_append_left _ (List.mem_append_left _ (List.mem_append_left _ (List.mem_append_left _ (List.mem_append_right _ h))))))) (by decide +kernel))
set_option maxRecDepth 20000 in
theorem gL_law_X9_strokes : GoodIn wsL_law (wsV RL 225 RX9 yX9_strokes wsX9_strokes) := goodIn_app (goodIn_of _ (by decide +kernel)) ggL_law_X9_strokes
set_option maxRecDepth 20000 in
theorem ggL_law_X8_strikes : GoodIn wsL_law wsX8_strikes := goodIn_r _ [949, 33, 950, 951, 952, 32, 953, 160, 1078, 1079, 1080, 1081, 1082, 1083, 1084, 1085, 1086, 1127, 1128, 1129, 1130] (by decide +kernel) (by decide +kernel)
set_option maxRecDepth 20000 in
theorem gL_law_X8_strikes : GoodIn wsL_law (wsV RL 226 RX8 yX8_strikes wsX8_strikes) := goodIn_app (goodIn_of _ (by decide +kernel)) ggL_law_X8_strikes
set_option maxRecDepth 20000 in
theorem ggL_law_X9_strikes_ : GoodIn wsL_law wsX9_strikes_ := goodIn_r _ [957, 566, 1087, 1088, 1089, 1090, 1091, 1092, 1093, 1094, 1095, 1096, 1097, 1098, 1099, 1100, 1101, 1102, 1103, 1104, 1105, 1106, 1107, 1108, 1109, 1110, 1111, 1112] (by decide +kernel) (by decide +kernel)
set_option maxRecDepth 20000 in
theorem gL_law_X9_strikes_ : GoodIn wsL_law (wsV RL 229 RX9 yX9_strikes_ wsX9_strikes_) := goodIn_app (goodIn_of _ (by decide +kernel)) ggL_law_X9_strikes_
set_option maxRecDepth 20000 in
theorem ggL_law_L_markAt : GoodIn wsL_law wsL_markAt := goodIn_ca (goodIn_ca (goodIn_r _ [960, 897, 961, 962, 963, 2, 964, 902, 903, 33, 965, 966, 967, 32, 968, 160, 969, 119, 93, 120, 227, 177, 178, 970, 971, 972, 973, 158, 535, 536, 537, 538, 539, 457, 277, 458, 1078, 1079, 1080, 1081, 1082, 1083, 1084, 1085, 1086, 1127, 1128, 1129, 1130] (by decide +kernel) (by decide +kernel)) (goodIn_sub (fun _ h => List.mem_append_left _ (List.mem_append_left _ (List.mem_append_left _ (List.mem_append_left _ (List.mem_append_left _ (List.mem_append_left _ (List.mem_append_right _ h))))))) (by decide +kernel))) (goodIn_sub (fun _ h => List.mem_append_left _ (List.mem_append_right _ h)) (by decide +kernel))
set_option maxRecDepth 20000 in
theorem gL_law_L_markAt : GoodIn wsL_law (va_wsS RL 230 yL_markAt wsL_markAt) := goodIn_app (goodIn_of _ (by decide +kernel)) ggL_law_L_markAt
set_option maxRecDepth 20000 in
theorem ggL_law_X9_markAt : GoodIn wsL_law wsX9_markAt := goodIn_ca (goodIn_r _ [977, 283, 196, 566, 978, 979, 980, 5, 981, 285, 286, 287, 288, 289, 290, 291, 1087, 1088, 1089, 1090, 1091, 1092, 1093, 1094, 1095, 1096, 1097, 1098, 1099, 1100, 1101, 1102, 1103, 1104, 1105, 1106, 1107, 1108, 1109, 1110, 1111, 1112] (by decide +kernel) (by decide +kernel)) (goodIn_sub (fun _ h => List.mem_append_left _ (List.mem_append_left _ (List.mem_append_left _ (List.mem_append_left _ (List.mem_append_left _ (List.mem_append_left _ (List.mem_append_right _ h))))))) (by decide +kernel))
set_option maxRecDepth 20000 in
theorem gL_law_X9_markAt : GoodIn wsL_law (wsV RL 232 RX9 yX9_markAt wsX9_markAt) := goodIn_app (goodIn_of _ (by decide +kernel)) ggL_law_X9_markAt
set_option maxRecDepth 20000 in
theorem ggL_law_L_strokesAt : GoodIn wsL_law wsL_strokesAt := goodIn_ca (goodIn_ca (goodIn_r _ [984, 897, 985, 986, 987, 2, 988, 902, 903, 33, 989, 990, 991, 32, 992, 993, 966, 967, 968, 160, 969, 119, 93, 120, 994, 971, 972, 973, 158, 535, 536, 537, 538, 539, 457, 277, 458, 995, 996, 997, 998, 159, 1078, 1079, 1080, 1081, 1082, 1083, 1084, 1085, 1086, 1127, 1128, 1129, 1130] (by decide +kernel) (by decide +kernel)) (goodIn_sub (fun _ h => List.mem_append_left _ (List.mem_append_left _ (List.mem_append_left _ (List.mem_append_left _ (List.mem_append_left _ (List.mem_append_left _ (List.mem_append_right _ h))))))) (by decide +kernel))) (goodIn_sub (fun _ h => List.mem_append_left _ (List.mem_append_right _ h)) (by decide +kernel))
set_option maxRecDepth 20000 in
theorem gL_law_L_strokesAt : GoodIn wsL_law (va_wsS RL 233 yL_strokesAt wsL_strokesAt) := goodIn_app (goodIn_of _ (by decide +kernel)) ggL_law_L_strokesAt
set_option maxRecDepth 20000 in
theorem ggL_law_X9_strokesAt : GoodIn wsL_law wsX9_strokesAt := goodIn_ca (goodIn_r _ [1002, 283, 196, 197, 978, 979, 980, 5, 981, 566, 288, 289, 290, 291, 1087, 1088, 1089, 1090, 1091, 1092, 1093, 1094, 1095, 1096, 1097, 1098, 1099, 1100, 1101, 1102, 1103, 1104, 1105, 1106, 1107, 1108, 1109, 1110, 1111, 1112] (by decide +kernel) (by decide +kernel)) (goodIn_sub (fun _ h => List.mem_append_left _ (List.mem_append_left _ (List.mem_append_left _ (List.mem_append_left _ (List.mem_append_left _ (List.mem_append_left _ (List.mem_append_right _ h))))))) (by decide +kernel))
set_option maxRecDepth 20000 in
theorem gL_law_X9_strokesAt : GoodIn wsL_law (wsV RL 235 RX9 yX9_strokesAt wsX9_strokesAt) := goodIn_app (goodIn_of _ (by decide +kernel)) ggL_law_X9_strokesAt
set_option maxRecDepth 20000 in
theorem ggL_law_L_strokesAhead : GoodIn wsL_law wsL_strokesAhead := goodIn_ca (goodIn_ca (goodIn_r _ [1005, 217, 1006, 1007, 1008, 2, 1009, 373, 374, 375, 376, 223, 224, 227, 177, 178, 1010, 1011, 1012, 1013, 35, 25, 21, 1014, 1015, 1016, 24, 1017, 136, 137, 138, 139, 1018, 443, 444, 20, 445, 131, 129, 130, 273, 274, 275, 276, 277, 278, 446, 447, 448, 449, 450, 119, 93, 120, 451, 92, 94, 452, 453, 454, 455, 456, 457, 458, 459, 460, 461, 462, 463, 464, 465, 466, 467, 468, 469, 470, 29, 471, 472, 473, 474, 475, 476, 477, 478, 33, 479, 480, 481, 482, 483, 484, 485, 28, 486, 152, 487, 488, 489, 490, 491, 492, 493, 494, 495, 496, 150, 151, 497, 498, 499, 500, 501, 502, 503, 504, 147, 505, 506, 507, 508, 509, 510, 511, 512, 513, 514, 515, 516, 517, 149, 518, 519, 520, 521, 522, 523, 524, 525, 526, 527, 528, 529, 530, 531, 532, 533, 32, 534, 160, 161, 158, 159, 535, 536, 537, 538, 539, 540, 541, 542, 543, 544, 545, 1078, 1079, 1080, 1081, 1082, 1083, 1084, 1085, 1086, 1117, 1118, 1119, 1120, 1114, 1115, 1116, 1121, 1122, 1123, 1124, 1125, 1126, 1139, 1140, 1141, 1127, 1128, 1129, 1130] (by decide +kernel) (by decide +kernel)) (goodIn_sub (fun _ h => List.mem_append_left _ (List.mem_append_left _ (List.mem_append_left _ (List.mem_append_left _ (List.mem_append_left _ (List.mem_append_left _ (List.mem_append_right _ h))))))) (by decide +kernel))) (goodIn_sub (fun _ h => List.mem_append_left _ (List.mem_append_left _ (List.mem_append_left _ (List.mem_append_left _ (List.mem_append_left _ (List.mem_append_right _ h)))))) (by decide +kernel))
set_option maxRecDepth 20000 in
theorem gL_law_L_strokesAhead : GoodIn wsL_law (va_wsS RL 236 yL_strokesAhead wsL_strokesAhead) := goodIn_app (goodIn_of _ (by decide +kernel)) ggL_law_L_strokesAhead
set_option maxRecDepth 20000 in
theorem ggL_law_X9_strokesAhead : GoodIn wsL_law wsX9_strokesAhead := goodIn_ca (goodIn_ca (goodIn_r _ [1022, 283, 559, 561, 560, 550, 285, 286, 5, 287, 288, 289, 290, 291, 551, 552, 553, 554, 430, 187, 188, 555, 556, 557, 558, 189, 562, 563, 564, 565, 190, 194, 196, 566, 197, 567, 568, 569, 570, 571, 572, 573, 574, 575, 576, 195, 577, 578, 579, 580, 193, 1087, 1088, 1089, 1090, 1091, 1092, 1093, 1094, 1095, 1096, 1097, 1098, 1099, 1100, 1101, 1102, 1103, 1104, 1105, 1106, 1107, 1108, 1109, 1110, 1111, 1112] (by decide +kernel) (by decide +kernel)) (goodIn_sub (fun _ h => List.mem_append_left _ (List.mem_append_left _ (List.mem_append_left _ (List.mem_append_right _ h)))) (by decide +kernel))) (goodIn_sub (fun _ h => List.mem_append_left _ (List.mem_append_left _ (List.mem_append_left _ (List.mem_append_left _ (List.mem_append_left _ (List.mem_append_left _ (List.mem_append_right _ h))))))) (by decide +kernel))
set_option maxRecDepth 20000 in
theorem gL_law_X9_strokesAhead : GoodIn wsL_law (wsV RL 238 RX9 yX9_strokesAhead wsX9_strokesAhead) := goodIn_app (goodIn_of _ (by decide +kernel)) ggL_law_X9_strokesAhead
set_option maxRecDepth 20000 in
theorem ggL_law_L_strokesByBeats : GoodIn wsL_law wsL_strokesByBeats := goodIn_ca (goodIn_ca (goodIn_r _ [1025, 217, 1026, 1027, 1028, 2, 1029, 373, 374, 375, 376, 223, 224, 227, 177, 178, 1030, 1031, 1032, 1033, 35, 25, 34, 21, 1014, 1015, 1016, 24, 1017, 136, 137, 138, 139, 1034, 1035, 1036, 20, 1037, 129, 130, 131, 438, 439, 440, 441, 442, 443, 444, 445, 273, 274, 275, 276, 277, 278, 459, 460, 461, 462, 463, 464, 465, 466, 467, 468, 469, 470, 29, 471, 472, 473, 474, 475, 476, 477, 478, 33, 479, 480, 481, 482, 483, 484, 485, 28, 486, 152, 487, 488, 489, 490, 491, 492, 457, 458, 493, 494, 495, 496, 150, 151, 497, 498, 499, 500, 501, 502, 503, 504, 147, 505, 506, 507, 508, 509, 510, 511, 512, 513, 514, 515, 516, 517, 149, 518, 519, 520, 521, 522, 523, 524, 525, 526, 527, 528, 529, 530, 531, 532, 533, 32, 534, 160, 161, 158, 159, 535, 536, 537, 538, 539, 540, 541, 542, 543, 544, 119, 93, 120, 545, 92, 94, 1078, 1079, 1080, 1081, 1082, 1083, 1084, 1085, 1086, 1117, 1118, 1119, 1120, 1114, 1115, 1116, 1121, 1122, 1123, 1124, 1125, 1126, 1139, 1140, 1141, 1127, 1128, 1129, 1130] (by decide +kernel) (by decide +kernel)) (goodIn_sub (fun _ h => List.mem_append_left _ (List.mem_append_left _ (List.mem_append_left _ (List.mem_append_left _ (List.mem_append_left _ (List.mem_append_left _ (List.mem_append_right _ h))))))) (by decide +kernel))) (goodIn_sub (fun _ h => List.mem_append_left _ (List.mem_append_left _ (List.mem_append_left _ (List.mem_append_left _ (List.mem_append_left _ (List.mem_append_right _ h)))))) (by decide +kernel))
set_option maxRecDepth 20000 in
theorem gL_law_L_strokesByBeats : GoodIn wsL_law (va_wsS RL 239 yL_strokesByBeats wsL_strokesByBeats) := goodIn_app (goodIn_of _ (by decide +kernel)) ggL_law_L_strokesByBeats
set_option maxRecDepth 20000 in
theorem ggL_law_X9_strokesByBeats : GoodIn wsL_law wsX9_strokesByBeats := goodIn_ca (goodIn_ca (goodIn_r _ [1041, 1042, 1020, 1021, 5, 1022, 283, 559, 561, 560, 550, 285, 286, 287, 288, 289, 290, 291, 551, 552, 553, 554, 430, 187, 188, 555, 556, 557, 558, 189, 562, 563, 564, 565, 190, 194, 196, 566, 197, 567, 568, 569, 570, 571, 572, 573, 574, 575, 576, 195, 577, 578, 579, 580, 193, 1087, 1088, 1089, 1090, 1091, 1092, 1093, 1094, 1095, 1096, 1097, 1098, 1099, 1100, 1101, 1102, 1103, 1104, 1105, 1106, 1107, 1108, 1109, 1110, 1111, 1112] (by decide +kernel) (by decide +kernel)) (goodIn_sub (fun _ h => List.mem_append_left _ (List.mem_append_left _ (List.mem_append_left _ (List.mem_append_right _ h)))) (by decide +kernel))) (goodIn_sub (fun _ h => List.mem_append_left _ (List.mem_append_left _ (List.mem_append_left _ (List.mem_append_left _ (List.mem_append_left _ (List.mem_append_left _ (List.mem_append_right _ h))))))) (by decide +kernel))
set_option maxRecDepth 20000 in
theorem gL_law_X9_strokesByBeats : GoodIn wsL_law (wsV RL 241 RX9 yX9_strokesByBeats wsX9_strokesByBeats) := goodIn_app (goodIn_of _ (by decide +kernel)) ggL_law_X9_strokesByBeats
set_option maxRecDepth 20000 in
theorem ggL_law_L_struckShare : GoodIn wsL_law wsL_struckShare := goodIn_ca (goodIn_ca (goodIn_r _ [1045, 1046, 1047, 1048, 1049, 2, 1050, 1051, 1052, 25, 33, 527, 528, 529, 24, 530, 139, 950, 951, 952, 32, 953, 160, 1078, 1079, 1080, 1081, 1082, 1083, 1084, 1085, 1086, 1117, 1118, 1119, 1120, 1127, 1128, 1129, 1130] (by decide +kernel) (by decide +kernel)) (goodIn_sub (fun _ h => List.mem_append_left _ (List.mem_append_left _ (List.mem_append_left _ (List.mem_append_left _ (List.mem_append_left _ (List.mem_append_left _ (List.mem_append_right _ h))))))) (by decide +kernel))) (goodIn_sub (fun _ h => List.mem_append_right _ h) (by decide +kernel))
set_option maxRecDepth 20000 in
theorem gL_law_L_struckShare : GoodIn wsL_law (va_wsS RL 242 yL_struckShare wsL_struckShare) := goodIn_app (goodIn_of _ (by decide +kernel)) ggL_law_L_struckShare
set_option maxRecDepth 20000 in
theorem ggL_law_X9_struckShare : GoodIn wsL_law wsX9_struckShare := goodIn_r _ [1056, 560, 283, 566, 1087, 1088, 1089, 1090, 1091, 1092, 1093, 1094, 1095, 1096, 1097, 1098, 1099, 1100, 1101, 1102, 1103, 1104, 1105, 1106, 1107, 1108, 1109, 1110, 1111, 1112] (by decide +kernel) (by decide +kernel)
set_option maxRecDepth 20000 in
theorem gL_law_X9_struckShare : GoodIn wsL_law (wsV RL 245 RX9 yX9_struckShare wsX9_struckShare) := goodIn_app (goodIn_of _ (by decide +kernel)) ggL_law_X9_struckShare
set_option maxRecDepth 20000 in
theorem ggL_law_X8_isOnce : GoodIn wsL_law wsX8_isOnce := goodIn_ca (goodIn_r _ [1060, 17, 33, 29, 1061, 36, 228, 229, 230, 16, 231, 45, 232, 233, 234, 44, 235, 78, 1062, 1063, 1064, 32, 1065, 993, 966, 967, 968, 160, 969, 119, 93, 120, 994, 971, 972, 973, 158, 535, 536, 537, 538, 539, 457, 277, 458, 1066, 1067, 1068, 28, 1069, 149, 1070, 1071, 1072, 1073, 161, 1010, 1011, 1012, 2, 1013, 35, 25, 21, 1014, 1015, 1016, 24, 1017, 136, 137, 138, 139, 1018, 443, 444, 20, 445, 131, 129, 130, 273, 274, 275, 276, 278, 446, 447, 448, 449, 450, 451, 92, 94, 452, 453, 454, 455, 456, 459, 460, 461, 462, 463, 464, 465, 466, 467, 468, 469, 470, 471, 472, 473, 474, 475, 476, 477, 478, 479, 480, 481, 482, 483, 484, 485, 486, 152, 487, 488, 489, 490, 491, 492, 493, 494, 495, 496, 150, 151, 497, 498, 499, 500, 501, 502, 503, 504, 147, 505, 506, 507, 508, 509, 510, 511, 512, 513, 514, 515, 516, 517, 518, 519, 520, 521, 522, 523, 524, 525, 526, 527, 528, 529, 530, 531, 532, 533, 534, 159, 540, 541, 542, 543, 544, 545, 1030, 1031, 1032, 1033, 34, 1034, 1035, 1036, 1037, 438, 439, 440, 441, 442, 322, 266, 267, 268, 244, 245, 246, 247, 248, 249, 250, 251, 252, 253, 254, 255, 256, 257, 258, 259, 260, 53, 269, 270, 271, 48, 272, 71, 69, 70, 388, 389, 390, 391, 392, 393, 394, 395, 396, 397, 398, 399, 400, 401, 402, 403, 404, 405, 406, 407, 408, 409, 1078, 1079, 1080, 1081, 1082, 1083, 1084, 1085, 1086, 1113, 1131, 1132, 1133, 1127, 1128, 1129, 1130, 1121, 1122, 1123, 1124, 1125, 1126, 1117, 1118, 1119, 1120, 1114, 1115, 1116, 1139, 1140, 1141, 1134, 1135, 1136, 1137, 1138] (by decide +kernel) (by decide +kernel)) (goodIn_sub (fun _ h => List.mem_append_left _ (List.mem_append_left _ (List.mem_append_left _ (List.mem_append_left _ (List.mem_append_left _ (List.mem_append_left _ (List.mem_append_right _ h))))))) (by decide +kernel))
set_option maxRecDepth 20000 in
theorem gL_law_X8_isOnce : GoodIn wsL_law (wsV RL 246 RX8 yX8_isOnce wsX8_isOnce) := goodIn_app (goodIn_of _ (by decide +kernel)) ggL_law_X8_isOnce
set_option maxRecDepth 20000 in
theorem ggL_law_X9_isOnce : GoodIn wsL_law wsX9_isOnce := goodIn_r _ [1077] (by decide +kernel) (by decide +kernel)
set_option maxRecDepth 20000 in
theorem gL_law_X9_isOnce : GoodIn wsL_law (wsV RL 250 RX9 yX9_isOnce wsX9_isOnce) := goodIn_app (goodIn_of _ (by decide +kernel)) ggL_law_X9_isOnce
