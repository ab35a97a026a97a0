theorem dX0_init_0 : decode cX0_init 0 = .ok (.aload_n 0, 1) := by decide +kernel
theorem dX0_init_1 : decode cX0_init 1 = .ok (.invokespecial 3, 3) := by decide +kernel
theorem dX0_init_4 : decode cX0_init 4 = .ok (.aload_n 0, 1) := by decide +kernel
theorem dX0_init_5 : decode cX0_init 5 = .ok (.new 9, 3) := by decide +kernel
theorem dX0_init_8 : decode cX0_init 8 = .ok (.dup, 1) := by decide +kernel
theorem dX0_init_9 : decode cX0_init 9 = .ok (.invokespecial 11, 3) := by decide +kernel
theorem dX0_init_12 : decode cX0_init 12 = .ok (.putfield 12, 3) := by decide +kernel
theorem dX0_init_15 : decode cX0_init 15 = .ok (.aload_n 0, 1) := by decide +kernel
theorem dX0_init_16 : decode cX0_init 16 = .ok (.bipush 24, 2) := by decide +kernel
theorem dX0_init_18 : decode cX0_init 18 = .ok (.anewarray 18, 3) := by decide +kernel
theorem dX0_init_21 : decode cX0_init 21 = .ok (.putfield 20, 3) := by decide +kernel
theorem dX0_init_24 : decode cX0_init 24 = .ok (.aload_n 0, 1) := by decide +kernel
theorem dX0_init_25 : decode cX0_init 25 = .ok (.bipush 9, 2) := by decide +kernel
theorem dX0_init_27 : decode cX0_init 27 = .ok (.newarray .int, 2) := by decide +kernel
theorem dX0_init_29 : decode cX0_init 29 = .ok (.putfield 24, 3) := by decide +kernel
theorem dX0_init_32 : decode cX0_init 32 = .ok (.aload_n 0, 1) := by decide +kernel
theorem dX0_init_33 : decode cX0_init 33 = .ok (.iconst 0, 1) := by decide +kernel
theorem dX0_init_34 : decode cX0_init 34 = .ok (.putfield 28, 3) := by decide +kernel
theorem dX0_init_37 : decode cX0_init 37 = .ok (.aload_n 0, 1) := by decide +kernel
theorem dX0_init_38 : decode cX0_init 38 = .ok (.iconst 0, 1) := by decide +kernel
theorem dX0_init_39 : decode cX0_init 39 = .ok (.putfield 32, 3) := by decide +kernel
theorem dX0_init_42 : decode cX0_init 42 = .ok (.aload_n 0, 1) := by decide +kernel
theorem dX0_init_43 : decode cX0_init 43 = .ok (.iconst 1, 1) := by decide +kernel
theorem dX0_init_44 : decode cX0_init 44 = .ok (.putfield 35, 3) := by decide +kernel
theorem dX0_init_47 : decode cX0_init 47 = .ok (.return_, 1) := by decide +kernel
theorem dX0_drumCount_0 : decode cX0_drumCount 0 = .ok (.aload_n 0, 1) := by decide +kernel
theorem dX0_drumCount_1 : decode cX0_drumCount 1 = .ok (.getfield 12, 3) := by decide +kernel
theorem dX0_drumCount_4 : decode cX0_drumCount 4 = .ok (.invokevirtual 39, 3) := by decide +kernel
theorem dX0_drumCount_7 : decode cX0_drumCount 7 = .ok (.ireturn, 1) := by decide +kernel
theorem dX0_makeDrum_0 : decode cX0_makeDrum 0 = .ok (.aload_n 0, 1) := by decide +kernel
theorem dX0_makeDrum_1 : decode cX0_makeDrum 1 = .ok (.getfield 12, 3) := by decide +kernel
theorem dX0_makeDrum_4 : decode cX0_makeDrum 4 = .ok (.invokevirtual 39, 3) := by decide +kernel
theorem dX0_makeDrum_7 : decode cX0_makeDrum 7 = .ok (.istore_n 1, 1) := by decide +kernel
theorem dX0_makeDrum_8 : decode cX0_makeDrum 8 = .ok (.aload_n 0, 1) := by decide +kernel
theorem dX0_makeDrum_9 : decode cX0_makeDrum 9 = .ok (.getfield 12, 3) := by decide +kernel
theorem dX0_makeDrum_12 : decode cX0_makeDrum 12 = .ok (.new 18, 3) := by decide +kernel
theorem dX0_makeDrum_15 : decode cX0_makeDrum 15 = .ok (.dup, 1) := by decide +kernel
theorem dX0_makeDrum_16 : decode cX0_makeDrum 16 = .ok (.iload_n 1, 1) := by decide +kernel
theorem dX0_makeDrum_17 : decode cX0_makeDrum 17 = .ok (.invokespecial 43, 3) := by decide +kernel
theorem dX0_makeDrum_20 : decode cX0_makeDrum 20 = .ok (.invokevirtual 46, 3) := by decide +kernel
theorem dX0_makeDrum_23 : decode cX0_makeDrum 23 = .ok (.pop, 1) := by decide +kernel
theorem dX0_makeDrum_24 : decode cX0_makeDrum 24 = .ok (.iload_n 1, 1) := by decide +kernel
theorem dX0_makeDrum_25 : decode cX0_makeDrum 25 = .ok (.ireturn, 1) := by decide +kernel
theorem dX0_drumOrNull_0 : decode cX0_drumOrNull 0 = .ok (.iload_n 1, 1) := by decide +kernel
theorem dX0_drumOrNull_1 : decode cX0_drumOrNull 1 = .ok (.ifCond .lt 28, 3) := by decide +kernel
theorem dX0_drumOrNull_4 : decode cX0_drumOrNull 4 = .ok (.iload_n 1, 1) := by decide +kernel
theorem dX0_drumOrNull_5 : decode cX0_drumOrNull 5 = .ok (.aload_n 0, 1) := by decide +kernel
theorem dX0_drumOrNull_6 : decode cX0_drumOrNull 6 = .ok (.getfield 12, 3) := by decide +kernel
theorem dX0_drumOrNull_9 : decode cX0_drumOrNull 9 = .ok (.invokevirtual 39, 3) := by decide +kernel
theorem dX0_drumOrNull_12 : decode cX0_drumOrNull 12 = .ok (.if_icmp .ge 17, 3) := by decide +kernel
theorem dX0_drumOrNull_15 : decode cX0_drumOrNull 15 = .ok (.aload_n 0, 1) := by decide +kernel
theorem dX0_drumOrNull_16 : decode cX0_drumOrNull 16 = .ok (.getfield 12, 3) := by decide +kernel
theorem dX0_drumOrNull_19 : decode cX0_drumOrNull 19 = .ok (.iload_n 1, 1) := by decide +kernel
theorem dX0_drumOrNull_20 : decode cX0_drumOrNull 20 = .ok (.invokevirtual 50, 3) := by decide +kernel
theorem dX0_drumOrNull_23 : decode cX0_drumOrNull 23 = .ok (.checkcast 18, 3) := by decide +kernel
theorem dX0_drumOrNull_26 : decode cX0_drumOrNull 26 = .ok (.goto 4, 3) := by decide +kernel
theorem dX0_drumOrNull_29 : decode cX0_drumOrNull 29 = .ok (.aconst_null, 1) := by decide +kernel
theorem dX0_drumOrNull_30 : decode cX0_drumOrNull 30 = .ok (.areturn, 1) := by decide +kernel
theorem dX0_changeTune_0 : decode cX0_changeTune 0 = .ok (.aload_n 0, 1) := by decide +kernel
theorem dX0_changeTune_1 : decode cX0_changeTune 1 = .ok (.iload_n 1, 1) := by decide +kernel
theorem dX0_changeTune_2 : decode cX0_changeTune 2 = .ok (.invokevirtual 54, 3) := by decide +kernel
theorem dX0_changeTune_5 : decode cX0_changeTune 5 = .ok (.astore_n 3, 1) := by decide +kernel
theorem dX0_changeTune_6 : decode cX0_changeTune 6 = .ok (.iload_n 1, 1) := by decide +kernel
theorem dX0_changeTune_7 : decode cX0_changeTune 7 = .ok (.ifCond .lt 19, 3) := by decide +kernel
theorem dX0_changeTune_10 : decode cX0_changeTune 10 = .ok (.iload_n 1, 1) := by decide +kernel
theorem dX0_changeTune_11 : decode cX0_changeTune 11 = .ok (.aload_n 0, 1) := by decide +kernel
theorem dX0_changeTune_12 : decode cX0_changeTune 12 = .ok (.getfield 20, 3) := by decide +kernel
theorem dX0_changeTune_15 : decode cX0_changeTune 15 = .ok (.arraylength, 1) := by decide +kernel
theorem dX0_changeTune_16 : decode cX0_changeTune 16 = .ok (.if_icmp .ge 10, 3) := by decide +kernel
theorem dX0_changeTune_19 : decode cX0_changeTune 19 = .ok (.aload_n 0, 1) := by decide +kernel
theorem dX0_changeTune_20 : decode cX0_changeTune 20 = .ok (.getfield 20, 3) := by decide +kernel
theorem dX0_changeTune_23 : decode cX0_changeTune 23 = .ok (.iload_n 1, 1) := by decide +kernel
theorem dX0_changeTune_24 : decode cX0_changeTune 24 = .ok (.aload_n 2, 1) := by decide +kernel
theorem dX0_changeTune_25 : decode cX0_changeTune 25 = .ok (.aastore, 1) := by decide +kernel
theorem dX0_changeTune_26 : decode cX0_changeTune 26 = .ok (.aload_n 3, 1) := by decide +kernel
theorem dX0_changeTune_27 : decode cX0_changeTune 27 = .ok (.areturn, 1) := by decide +kernel
theorem dX0_changeSilence_0 : decode cX0_changeSilence 0 = .ok (.aload_n 0, 1) := by decide +kernel
theorem dX0_changeSilence_1 : decode cX0_changeSilence 1 = .ok (.iload_n 1, 1) := by decide +kernel
theorem dX0_changeSilence_2 : decode cX0_changeSilence 2 = .ok (.putfield 28, 3) := by decide +kernel
theorem dX0_changeSilence_5 : decode cX0_changeSilence 5 = .ok (.aload_n 0, 1) := by decide +kernel
theorem dX0_changeSilence_6 : decode cX0_changeSilence 6 = .ok (.iload_n 2, 1) := by decide +kernel
theorem dX0_changeSilence_7 : decode cX0_changeSilence 7 = .ok (.putfield 32, 3) := by decide +kernel
theorem dX0_changeSilence_10 : decode cX0_changeSilence 10 = .ok (.iload_n 2, 1) := by decide +kernel
theorem dX0_changeSilence_11 : decode cX0_changeSilence 11 = .ok (.iload_n 1, 1) := by decide +kernel
theorem dX0_changeSilence_12 : decode cX0_changeSilence 12 = .ok (.isub, 1) := by decide +kernel
theorem dX0_changeSilence_13 : decode cX0_changeSilence 13 = .ok (.bipush 24, 2) := by decide +kernel
theorem dX0_changeSilence_15 : decode cX0_changeSilence 15 = .ok (.invokestatic 58, 3) := by decide +kernel
theorem dX0_changeSilence_18 : decode cX0_changeSilence 18 = .ok (.ireturn, 1) := by decide +kernel
theorem dX0_changeQuarters_0 : decode cX0_changeQuarters 0 = .ok (.aload_n 0, 1) := by decide +kernel
theorem dX0_changeQuarters_1 : decode cX0_changeQuarters 1 = .ok (.getfield 35, 3) := by decide +kernel
theorem dX0_changeQuarters_4 : decode cX0_changeQuarters 4 = .ok (.istore_n 2, 1) := by decide +kernel
theorem dX0_changeQuarters_5 : decode cX0_changeQuarters 5 = .ok (.aload_n 0, 1) := by decide +kernel
theorem dX0_changeQuarters_6 : decode cX0_changeQuarters 6 = .ok (.iload_n 1, 1) := by decide +kernel
theorem dX0_changeQuarters_7 : decode cX0_changeQuarters 7 = .ok (.putfield 35, 3) := by decide +kernel
theorem dX0_changeQuarters_10 : decode cX0_changeQuarters 10 = .ok (.iload_n 2, 1) := by decide +kernel
theorem dX0_changeQuarters_11 : decode cX0_changeQuarters 11 = .ok (.ireturn, 1) := by decide +kernel
theorem dX0_strokesOfBell_0 : decode cX0_strokesOfBell 0 = .ok (.iload_n 1, 1) := by decide +kernel
theorem dX0_strokesOfBell_1 : decode cX0_strokesOfBell 1 = .ok (.ifCond .lt 21, 3) := by decide +kernel
theorem dX0_strokesOfBell_4 : decode cX0_strokesOfBell 4 = .ok (.iload_n 1, 1) := by decide +kernel
theorem dX0_strokesOfBell_5 : decode cX0_strokesOfBell 5 = .ok (.aload_n 0, 1) := by decide +kernel
theorem dX0_strokesOfBell_6 : decode cX0_strokesOfBell 6 = .ok (.getfield 24, 3) := by decide +kernel
theorem dX0_strokesOfBell_9 : decode cX0_strokesOfBell 9 = .ok (.arraylength, 1) := by decide +kernel
theorem dX0_strokesOfBell_10 : decode cX0_strokesOfBell 10 = .ok (.if_icmp .ge 12, 3) := by decide +kernel
theorem dX0_strokesOfBell_13 : decode cX0_strokesOfBell 13 = .ok (.aload_n 0, 1) := by decide +kernel
theorem dX0_strokesOfBell_14 : decode cX0_strokesOfBell 14 = .ok (.getfield 24, 3) := by decide +kernel
theorem dX0_strokesOfBell_17 : decode cX0_strokesOfBell 17 = .ok (.iload_n 1, 1) := by decide +kernel
theorem dX0_strokesOfBell_18 : decode cX0_strokesOfBell 18 = .ok (.iaload, 1) := by decide +kernel
theorem dX0_strokesOfBell_19 : decode cX0_strokesOfBell 19 = .ok (.goto 4, 3) := by decide +kernel
theorem dX0_strokesOfBell_22 : decode cX0_strokesOfBell 22 = .ok (.iconst 0, 1) := by decide +kernel
theorem dX0_strokesOfBell_23 : decode cX0_strokesOfBell 23 = .ok (.ireturn, 1) := by decide +kernel
theorem dX0_strokesOfAllBells_0 : decode cX0_strokesOfAllBells 0 = .ok (.lconst 0, 1) := by decide +kernel
theorem dX0_strokesOfAllBells_1 : decode cX0_strokesOfAllBells 1 = .ok (.lstore_n 1, 1) := by decide +kernel
theorem dX0_strokesOfAllBells_2 : decode cX0_strokesOfAllBells 2 = .ok (.iconst 0, 1) := by decide +kernel
theorem dX0_strokesOfAllBells_3 : decode cX0_strokesOfAllBells 3 = .ok (.istore_n 3, 1) := by decide +kernel
theorem dX0_strokesOfAllBells_4 : decode cX0_strokesOfAllBells 4 = .ok (.iload_n 3, 1) := by decide +kernel
theorem dX0_strokesOfAllBells_5 : decode cX0_strokesOfAllBells 5 = .ok (.aload_n 0, 1) := by decide +kernel
theorem dX0_strokesOfAllBells_6 : decode cX0_strokesOfAllBells 6 = .ok (.getfield 24, 3) := by decide +kernel
theorem dX0_strokesOfAllBells_9 : decode cX0_strokesOfAllBells 9 = .ok (.arraylength, 1) := by decide +kernel
theorem dX0_strokesOfAllBells_10 : decode cX0_strokesOfAllBells 10 = .ok (.if_icmp .ge 19, 3) := by decide +kernel
theorem dX0_strokesOfAllBells_13 : decode cX0_strokesOfAllBells 13 = .ok (.lload_n 1, 1) := by decide +kernel
theorem dX0_strokesOfAllBells_14 : decode cX0_strokesOfAllBells 14 = .ok (.aload_n 0, 1) := by decide +kernel
theorem dX0_strokesOfAllBells_15 : decode cX0_strokesOfAllBells 15 = .ok (.getfield 24, 3) := by decide +kernel
theorem dX0_strokesOfAllBells_18 : decode cX0_strokesOfAllBells 18 = .ok (.iload_n 3, 1) := by decide +kernel
theorem dX0_strokesOfAllBells_19 : decode cX0_strokesOfAllBells 19 = .ok (.iaload, 1) := by decide +kernel
theorem dX0_strokesOfAllBells_20 : decode cX0_strokesOfAllBells 20 = .ok (.i2l, 1) := by decide +kernel
theorem dX0_strokesOfAllBells_21 : decode cX0_strokesOfAllBells 21 = .ok (.ladd, 1) := by decide +kernel
theorem dX0_strokesOfAllBells_22 : decode cX0_strokesOfAllBells 22 = .ok (.lstore_n 1, 1) := by decide +kernel
theorem dX0_strokesOfAllBells_23 : decode cX0_strokesOfAllBells 23 = .ok (.iinc 3 1, 3) := by decide +kernel
theorem dX0_strokesOfAllBells_26 : decode cX0_strokesOfAllBells 26 = .ok (.goto (-22), 3) := by decide +kernel
theorem dX0_strokesOfAllBells_29 : decode cX0_strokesOfAllBells 29 = .ok (.lload_n 1, 1) := by decide +kernel
theorem dX0_strokesOfAllBells_30 : decode cX0_strokesOfAllBells 30 = .ok (.lreturn, 1) := by decide +kernel
theorem dX0_strokesDue_0 : decode cX0_strokesDue 0 = .ok (.iload_n 1, 1) := by decide +kernel
theorem dX0_strokesDue_1 : decode cX0_strokesDue 1 = .ok (.invokestatic 64, 3) := by decide +kernel
theorem dX0_strokesDue_4 : decode cX0_strokesDue 4 = .ok (.istore_n 2, 1) := by decide +kernel
theorem dX0_strokesDue_5 : decode cX0_strokesDue 5 = .ok (.aload_n 0, 1) := by decide +kernel
theorem dX0_strokesDue_6 : decode cX0_strokesDue 6 = .ok (.iload_n 2, 1) := by decide +kernel
theorem dX0_strokesDue_7 : decode cX0_strokesDue 7 = .ok (.invokevirtual 68, 3) := by decide +kernel
theorem dX0_strokesDue_10 : decode cX0_strokesDue 10 = .ok (.ifCond .eq 5, 3) := by decide +kernel
theorem dX0_strokesDue_13 : decode cX0_strokesDue 13 = .ok (.iconst 0, 1) := by decide +kernel
theorem dX0_strokesDue_14 : decode cX0_strokesDue 14 = .ok (.ireturn, 1) := by decide +kernel
theorem dX0_strokesDue_15 : decode cX0_strokesDue 15 = .ok (.iload_n 1, 1) := by decide +kernel
theorem dX0_strokesDue_16 : decode cX0_strokesDue 16 = .ok (.invokestatic 72, 3) := by decide +kernel
theorem dX0_strokesDue_19 : decode cX0_strokesDue 19 = .ok (.istore_n 3, 1) := by decide +kernel
theorem dX0_strokesDue_20 : decode cX0_strokesDue 20 = .ok (.iload_n 3, 1) := by decide +kernel
theorem dX0_strokesDue_21 : decode cX0_strokesDue 21 = .ok (.ifCond .le 16, 3) := by decide +kernel
theorem dX0_strokesDue_24 : decode cX0_strokesDue 24 = .ok (.aload_n 0, 1) := by decide +kernel
theorem dX0_strokesDue_25 : decode cX0_strokesDue 25 = .ok (.getfield 35, 3) := by decide +kernel
theorem dX0_strokesDue_28 : decode cX0_strokesDue 28 = .ok (.ifCond .eq 7, 3) := by decide +kernel
theorem dX0_strokesDue_31 : decode cX0_strokesDue 31 = .ok (.iload_n 3, 1) := by decide +kernel
theorem dX0_strokesDue_32 : decode cX0_strokesDue 32 = .ok (.goto 4, 3) := by decide +kernel
theorem dX0_strokesDue_35 : decode cX0_strokesDue 35 = .ok (.iconst 0, 1) := by decide +kernel
theorem dX0_strokesDue_36 : decode cX0_strokesDue 36 = .ok (.ireturn, 1) := by decide +kernel
theorem dX0_strokesDue_37 : decode cX0_strokesDue 37 = .ok (.aload_n 0, 1) := by decide +kernel
theorem dX0_strokesDue_38 : decode cX0_strokesDue 38 = .ok (.iload_n 2, 1) := by decide +kernel
theorem dX0_strokesDue_39 : decode cX0_strokesDue 39 = .ok (.invokevirtual 54, 3) := by decide +kernel
theorem dX0_strokesDue_42 : decode cX0_strokesDue 42 = .ok (.astore 4, 2) := by decide +kernel
theorem dX0_strokesDue_44 : decode cX0_strokesDue 44 = .ok (.iload_n 2, 1) := by decide +kernel
theorem dX0_strokesDue_45 : decode cX0_strokesDue 45 = .ok (.invokestatic 75, 3) := by decide +kernel
theorem dX0_strokesDue_48 : decode cX0_strokesDue 48 = .ok (.aload 4, 2) := by decide +kernel
theorem dX0_strokesDue_50 : decode cX0_strokesDue 50 = .ok (.ifnonnull 7, 3) := by decide +kernel
theorem dX0_strokesDue_53 : decode cX0_strokesDue 53 = .ok (.iconst 0, 1) := by decide +kernel
theorem dX0_strokesDue_54 : decode cX0_strokesDue 54 = .ok (.goto 8, 3) := by decide +kernel
theorem dX0_strokesDue_57 : decode cX0_strokesDue 57 = .ok (.aload 4, 2) := by decide +kernel
theorem dX0_strokesDue_59 : decode cX0_strokesDue 59 = .ok (.invokevirtual 78, 3) := by decide +kernel
theorem dX0_strokesDue_62 : decode cX0_strokesDue 62 = .ok (.iadd, 1) := by decide +kernel
theorem dX0_strokesDue_63 : decode cX0_strokesDue 63 = .ok (.ireturn, 1) := by decide +kernel
theorem dX0_ring_0 : decode cX0_ring 0 = .ok (.iload_n 1, 1) := by decide +kernel
theorem dX0_ring_1 : decode cX0_ring 1 = .ok (.invokestatic 72, 3) := by decide +kernel
theorem dX0_ring_4 : decode cX0_ring 4 = .ok (.istore_n 2, 1) := by decide +kernel
theorem dX0_ring_5 : decode cX0_ring 5 = .ok (.iload_n 2, 1) := by decide +kernel
theorem dX0_ring_6 : decode cX0_ring 6 = .ok (.ifCond .le 14, 3) := by decide +kernel
theorem dX0_ring_9 : decode cX0_ring 9 = .ok (.aload_n 0, 1) := by decide +kernel
theorem dX0_ring_10 : decode cX0_ring 10 = .ok (.getfield 24, 3) := by decide +kernel
theorem dX0_ring_13 : decode cX0_ring 13 = .ok (.iconst 1, 1) := by decide +kernel
theorem dX0_ring_14 : decode cX0_ring 14 = .ok (.dup2, 1) := by decide +kernel
theorem dX0_ring_15 : decode cX0_ring 15 = .ok (.iaload, 1) := by decide +kernel
theorem dX0_ring_16 : decode cX0_ring 16 = .ok (.iload_n 2, 1) := by decide +kernel
theorem dX0_ring_17 : decode cX0_ring 17 = .ok (.iadd, 1) := by decide +kernel
theorem dX0_ring_18 : decode cX0_ring 18 = .ok (.iastore, 1) := by decide +kernel
theorem dX0_ring_19 : decode cX0_ring 19 = .ok (.return_, 1) := by decide +kernel
theorem dX0_ring_20 : decode cX0_ring 20 = .ok (.iload_n 1, 1) := by decide +kernel
theorem dX0_ring_21 : decode cX0_ring 21 = .ok (.invokestatic 64, 3) := by decide +kernel
theorem dX0_ring_24 : decode cX0_ring 24 = .ok (.istore_n 3, 1) := by decide +kernel
theorem dX0_ring_25 : decode cX0_ring 25 = .ok (.aload_n 0, 1) := by decide +kernel
theorem dX0_ring_26 : decode cX0_ring 26 = .ok (.getfield 24, 3) := by decide +kernel
theorem dX0_ring_29 : decode cX0_ring 29 = .ok (.iconst 0, 1) := by decide +kernel
theorem dX0_ring_30 : decode cX0_ring 30 = .ok (.dup2, 1) := by decide +kernel
theorem dX0_ring_31 : decode cX0_ring 31 = .ok (.iaload, 1) := by decide +kernel
theorem dX0_ring_32 : decode cX0_ring 32 = .ok (.iload_n 3, 1) := by decide +kernel
theorem dX0_ring_33 : decode cX0_ring 33 = .ok (.invokestatic 75, 3) := by decide +kernel
theorem dX0_ring_36 : decode cX0_ring 36 = .ok (.iadd, 1) := by decide +kernel
theorem dX0_ring_37 : decode cX0_ring 37 = .ok (.iastore, 1) := by decide +kernel
theorem dX0_ring_38 : decode cX0_ring 38 = .ok (.aload_n 0, 1) := by decide +kernel
theorem dX0_ring_39 : decode cX0_ring 39 = .ok (.iload_n 3, 1) := by decide +kernel
theorem dX0_ring_40 : decode cX0_ring 40 = .ok (.invokevirtual 54, 3) := by decide +kernel
theorem dX0_ring_43 : decode cX0_ring 43 = .ok (.astore 4, 2) := by decide +kernel
theorem dX0_ring_45 : decode cX0_ring 45 = .ok (.aload 4, 2) := by decide +kernel
theorem dX0_ring_47 : decode cX0_ring 47 = .ok (.ifnull 12, 3) := by decide +kernel
theorem dX0_ring_50 : decode cX0_ring 50 = .ok (.aload 4, 2) := by decide +kernel
theorem dX0_ring_52 : decode cX0_ring 52 = .ok (.aload_n 0, 1) := by decide +kernel
theorem dX0_ring_53 : decode cX0_ring 53 = .ok (.getfield 24, 3) := by decide +kernel
theorem dX0_ring_56 : decode cX0_ring 56 = .ok (.invokevirtual 81, 3) := by decide +kernel
theorem dX0_ring_59 : decode cX0_ring 59 = .ok (.return_, 1) := by decide +kernel
theorem dX0_tuneOrNull_0 : decode cX0_tuneOrNull 0 = .ok (.iload_n 1, 1) := by decide +kernel
theorem dX0_tuneOrNull_1 : decode cX0_tuneOrNull 1 = .ok (.ifCond .lt 21, 3) := by decide +kernel
theorem dX0_tuneOrNull_4 : decode cX0_tuneOrNull 4 = .ok (.iload_n 1, 1) := by decide +kernel
theorem dX0_tuneOrNull_5 : decode cX0_tuneOrNull 5 = .ok (.aload_n 0, 1) := by decide +kernel
theorem dX0_tuneOrNull_6 : decode cX0_tuneOrNull 6 = .ok (.getfield 20, 3) := by decide +kernel
theorem dX0_tuneOrNull_9 : decode cX0_tuneOrNull 9 = .ok (.arraylength, 1) := by decide +kernel
theorem dX0_tuneOrNull_10 : decode cX0_tuneOrNull 10 = .ok (.if_icmp .ge 12, 3) := by decide +kernel
theorem dX0_tuneOrNull_13 : decode cX0_tuneOrNull 13 = .ok (.aload_n 0, 1) := by decide +kernel
theorem dX0_tuneOrNull_14 : decode cX0_tuneOrNull 14 = .ok (.getfield 20, 3) := by decide +kernel
theorem dX0_tuneOrNull_17 : decode cX0_tuneOrNull 17 = .ok (.iload_n 1, 1) := by decide +kernel
theorem dX0_tuneOrNull_18 : decode cX0_tuneOrNull 18 = .ok (.aaload, 1) := by decide +kernel
theorem dX0_tuneOrNull_19 : decode cX0_tuneOrNull 19 = .ok (.goto 4, 3) := by decide +kernel
theorem dX0_tuneOrNull_22 : decode cX0_tuneOrNull 22 = .ok (.aconst_null, 1) := by decide +kernel
theorem dX0_tuneOrNull_23 : decode cX0_tuneOrNull 23 = .ok (.areturn, 1) := by decide +kernel
theorem dX0_isSilent_0 : decode cX0_isSilent 0 = .ok (.aload_n 0, 1) := by decide +kernel
theorem dX0_isSilent_1 : decode cX0_isSilent 1 = .ok (.getfield 28, 3) := by decide +kernel
theorem dX0_isSilent_4 : decode cX0_isSilent 4 = .ok (.aload_n 0, 1) := by decide +kernel
theorem dX0_isSilent_5 : decode cX0_isSilent 5 = .ok (.getfield 32, 3) := by decide +kernel
theorem dX0_isSilent_8 : decode cX0_isSilent 8 = .ok (.if_icmp .gt 25, 3) := by decide +kernel
theorem dX0_isSilent_11 : decode cX0_isSilent 11 = .ok (.iload_n 1, 1) := by decide +kernel
theorem dX0_isSilent_12 : decode cX0_isSilent 12 = .ok (.aload_n 0, 1) := by decide +kernel
theorem dX0_isSilent_13 : decode cX0_isSilent 13 = .ok (.getfield 28, 3) := by decide +kernel
theorem dX0_isSilent_16 : decode cX0_isSilent 16 = .ok (.if_icmp .lt 15, 3) := by decide +kernel
theorem dX0_isSilent_19 : decode cX0_isSilent 19 = .ok (.iload_n 1, 1) := by decide +kernel
theorem dX0_isSilent_20 : decode cX0_isSilent 20 = .ok (.aload_n 0, 1) := by decide +kernel
theorem dX0_isSilent_21 : decode cX0_isSilent 21 = .ok (.getfield 32, 3) := by decide +kernel
theorem dX0_isSilent_24 : decode cX0_isSilent 24 = .ok (.if_icmp .ge 7, 3) := by decide +kernel
theorem dX0_isSilent_27 : decode cX0_isSilent 27 = .ok (.iconst 1, 1) := by decide +kernel
theorem dX0_isSilent_28 : decode cX0_isSilent 28 = .ok (.goto 4, 3) := by decide +kernel
theorem dX0_isSilent_31 : decode cX0_isSilent 31 = .ok (.iconst 0, 1) := by decide +kernel
theorem dX0_isSilent_32 : decode cX0_isSilent 32 = .ok (.ireturn, 1) := by decide +kernel
theorem dX0_isSilent_33 : decode cX0_isSilent 33 = .ok (.iload_n 1, 1) := by decide +kernel
theorem dX0_isSilent_34 : decode cX0_isSilent 34 = .ok (.aload_n 0, 1) := by decide +kernel
theorem dX0_isSilent_35 : decode cX0_isSilent 35 = .ok (.getfield 28, 3) := by decide +kernel
theorem dX0_isSilent_38 : decode cX0_isSilent 38 = .ok (.if_icmp .ge 11, 3) := by decide +kernel
theorem dX0_isSilent_41 : decode cX0_isSilent 41 = .ok (.iload_n 1, 1) := by decide +kernel
theorem dX0_isSilent_42 : decode cX0_isSilent 42 = .ok (.aload_n 0, 1) := by decide +kernel
theorem dX0_isSilent_43 : decode cX0_isSilent 43 = .ok (.getfield 32, 3) := by decide +kernel
theorem dX0_isSilent_46 : decode cX0_isSilent 46 = .ok (.if_icmp .ge 7, 3) := by decide +kernel
theorem dX0_isSilent_49 : decode cX0_isSilent 49 = .ok (.iconst 1, 1) := by decide +kernel
theorem dX0_isSilent_50 : decode cX0_isSilent 50 = .ok (.goto 4, 3) := by decide +kernel
theorem dX0_isSilent_53 : decode cX0_isSilent 53 = .ok (.iconst 0, 1) := by decide +kernel
theorem dX0_isSilent_54 : decode cX0_isSilent 54 = .ok (.ireturn, 1) := by decide +kernel
theorem dX0_strokesOfHour_0 : decode cX0_strokesOfHour 0 = .ok (.iload_n 0, 1) := by decide +kernel
theorem dX0_strokesOfHour_1 : decode cX0_strokesOfHour 1 = .ok (.bipush 12, 2) := by decide +kernel
theorem dX0_strokesOfHour_3 : decode cX0_strokesOfHour 3 = .ok (.irem, 1) := by decide +kernel
theorem dX0_strokesOfHour_4 : decode cX0_strokesOfHour 4 = .ok (.ifCond .ne 8, 3) := by decide +kernel
theorem dX0_strokesOfHour_7 : decode cX0_strokesOfHour 7 = .ok (.bipush 12, 2) := by decide +kernel
theorem dX0_strokesOfHour_9 : decode cX0_strokesOfHour 9 = .ok (.goto 7, 3) := by decide +kernel
theorem dX0_strokesOfHour_12 : decode cX0_strokesOfHour 12 = .ok (.iload_n 0, 1) := by decide +kernel
theorem dX0_strokesOfHour_13 : decode cX0_strokesOfHour 13 = .ok (.bipush 12, 2) := by decide +kernel
theorem dX0_strokesOfHour_15 : decode cX0_strokesOfHour 15 = .ok (.irem, 1) := by decide +kernel
theorem dX0_strokesOfHour_16 : decode cX0_strokesOfHour 16 = .ok (.ireturn, 1) := by decide +kernel
theorem dX0_quarterOf_0 : decode cX0_quarterOf 0 = .ok (.iload_n 0, 1) := by decide +kernel
theorem dX0_quarterOf_1 : decode cX0_quarterOf 1 = .ok (.sipush 3600, 3) := by decide +kernel
theorem dX0_quarterOf_4 : decode cX0_quarterOf 4 = .ok (.invokestatic 58, 3) := by decide +kernel
theorem dX0_quarterOf_7 : decode cX0_quarterOf 7 = .ok (.sipush 900, 3) := by decide +kernel
theorem dX0_quarterOf_10 : decode cX0_quarterOf 10 = .ok (.idiv, 1) := by decide +kernel
theorem dX0_quarterOf_11 : decode cX0_quarterOf 11 = .ok (.ireturn, 1) := by decide +kernel
theorem dX1_hasLeapDay_0 : decode cX1_hasLeapDay 0 = .ok (.iload_n 0, 1) := by decide +kernel
theorem dX1_hasLeapDay_1 : decode cX1_hasLeapDay 1 = .ok (.iconst 4, 1) := by decide +kernel
theorem dX1_hasLeapDay_2 : decode cX1_hasLeapDay 2 = .ok (.irem, 1) := by decide +kernel
theorem dX1_hasLeapDay_3 : decode cX1_hasLeapDay 3 = .ok (.ifCond .ne 22, 3) := by decide +kernel
theorem dX1_hasLeapDay_6 : decode cX1_hasLeapDay 6 = .ok (.iload_n 0, 1) := by decide +kernel
theorem dX1_hasLeapDay_7 : decode cX1_hasLeapDay 7 = .ok (.bipush 100, 2) := by decide +kernel
theorem dX1_hasLeapDay_9 : decode cX1_hasLeapDay 9 = .ok (.irem, 1) := by decide +kernel
theorem dX1_hasLeapDay_10 : decode cX1_hasLeapDay 10 = .ok (.ifCond .ne 11, 3) := by decide +kernel
theorem dX1_hasLeapDay_13 : decode cX1_hasLeapDay 13 = .ok (.iload_n 0, 1) := by decide +kernel
theorem dX1_hasLeapDay_14 : decode cX1_hasLeapDay 14 = .ok (.sipush 400, 3) := by decide +kernel
theorem dX1_hasLeapDay_17 : decode cX1_hasLeapDay 17 = .ok (.irem, 1) := by decide +kernel
theorem dX1_hasLeapDay_18 : decode cX1_hasLeapDay 18 = .ok (.ifCond .ne 7, 3) := by decide +kernel
theorem dX1_hasLeapDay_21 : decode cX1_hasLeapDay 21 = .ok (.iconst 1, 1) := by decide +kernel
theorem dX1_hasLeapDay_22 : decode cX1_hasLeapDay 22 = .ok (.goto 4, 3) := by decide +kernel
theorem dX1_hasLeapDay_25 : decode cX1_hasLeapDay 25 = .ok (.iconst 0, 1) := by decide +kernel
theorem dX1_hasLeapDay_26 : decode cX1_hasLeapDay 26 = .ok (.ireturn, 1) := by decide +kernel
theorem dX1_isDate_0 : decode cX1_isDate 0 = .ok (.iload_n 0, 1) := by decide +kernel
theorem dX1_isDate_1 : decode cX1_isDate 1 = .ok (.iconst 1, 1) := by decide +kernel
theorem dX1_isDate_2 : decode cX1_isDate 2 = .ok (.sipush 3000, 3) := by decide +kernel
theorem dX1_isDate_5 : decode cX1_isDate 5 = .ok (.invokestatic 9, 3) := by decide +kernel
theorem dX1_isDate_8 : decode cX1_isDate 8 = .ok (.ifCond .eq 30, 3) := by decide +kernel
theorem dX1_isDate_11 : decode cX1_isDate 11 = .ok (.iload_n 1, 1) := by decide +kernel
theorem dX1_isDate_12 : decode cX1_isDate 12 = .ok (.iconst 1, 1) := by decide +kernel
theorem dX1_isDate_13 : decode cX1_isDate 13 = .ok (.bipush 12, 2) := by decide +kernel
theorem dX1_isDate_15 : decode cX1_isDate 15 = .ok (.invokestatic 9, 3) := by decide +kernel
theorem dX1_isDate_18 : decode cX1_isDate 18 = .ok (.ifCond .eq 20, 3) := by decide +kernel
theorem dX1_isDate_21 : decode cX1_isDate 21 = .ok (.iload_n 2, 1) := by decide +kernel
theorem dX1_isDate_22 : decode cX1_isDate 22 = .ok (.iconst 1, 1) := by decide +kernel
theorem dX1_isDate_23 : decode cX1_isDate 23 = .ok (.iload_n 0, 1) := by decide +kernel
theorem dX1_isDate_24 : decode cX1_isDate 24 = .ok (.iload_n 1, 1) := by decide +kernel
theorem dX1_isDate_25 : decode cX1_isDate 25 = .ok (.invokestatic 15, 3) := by decide +kernel
theorem dX1_isDate_28 : decode cX1_isDate 28 = .ok (.invokestatic 9, 3) := by decide +kernel
theorem dX1_isDate_31 : decode cX1_isDate 31 = .ok (.ifCond .eq 7, 3) := by decide +kernel
theorem dX1_isDate_34 : decode cX1_isDate 34 = .ok (.iconst 1, 1) := by decide +kernel
theorem dX1_isDate_35 : decode cX1_isDate 35 = .ok (.goto 4, 3) := by decide +kernel
theorem dX1_isDate_38 : decode cX1_isDate 38 = .ok (.iconst 0, 1) := by decide +kernel
theorem dX1_isDate_39 : decode cX1_isDate 39 = .ok (.ireturn, 1) := by decide +kernel
theorem dX1_numberByYears_0 : decode cX1_numberByYears 0 = .ok (.iload_n 0, 1) := by decide +kernel
theorem dX1_numberByYears_1 : decode cX1_numberByYears 1 = .ok (.invokestatic 19, 3) := by decide +kernel
theorem dX1_numberByYears_4 : decode cX1_numberByYears 4 = .ok (.iload_n 0, 1) := by decide +kernel
theorem dX1_numberByYears_5 : decode cX1_numberByYears 5 = .ok (.iload_n 1, 1) := by decide +kernel
theorem dX1_numberByYears_6 : decode cX1_numberByYears 6 = .ok (.invokestatic 23, 3) := by decide +kernel
theorem dX1_numberByYears_9 : decode cX1_numberByYears 9 = .ok (.i2l, 1) := by decide +kernel
theorem dX1_numberByYears_10 : decode cX1_numberByYears 10 = .ok (.ladd, 1) := by decide +kernel
theorem dX1_numberByYears_11 : decode cX1_numberByYears 11 = .ok (.iload_n 2, 1) := by decide +kernel
theorem dX1_numberByYears_12 : decode cX1_numberByYears 12 = .ok (.i2l, 1) := by decide +kernel
theorem dX1_numberByYears_13 : decode cX1_numberByYears 13 = .ok (.ladd, 1) := by decide +kernel
theorem dX1_numberByYears_14 : decode cX1_numberByYears 14 = .ok (.lreturn, 1) := by decide +kernel
theorem dX1_numberOneByOne_0 : decode cX1_numberOneByOne 0 = .ok (.iload_n 2, 1) := by decide +kernel
theorem dX1_numberOneByOne_1 : decode cX1_numberOneByOne 1 = .ok (.i2l, 1) := by decide +kernel
theorem dX1_numberOneByOne_2 : decode cX1_numberOneByOne 2 = .ok (.lstore_n 3, 1) := by decide +kernel
theorem dX1_numberOneByOne_3 : decode cX1_numberOneByOne 3 = .ok (.iconst 1, 1) := by decide +kernel
theorem dX1_numberOneByOne_4 : decode cX1_numberOneByOne 4 = .ok (.istore 5, 2) := by decide +kernel
theorem dX1_numberOneByOne_6 : decode cX1_numberOneByOne 6 = .ok (.iload 5, 2) := by decide +kernel
theorem dX1_numberOneByOne_8 : decode cX1_numberOneByOne 8 = .ok (.iload_n 0, 1) := by decide +kernel
theorem dX1_numberOneByOne_9 : decode cX1_numberOneByOne 9 = .ok (.if_icmp .ge 29, 3) := by decide +kernel
theorem dX1_numberOneByOne_12 : decode cX1_numberOneByOne 12 = .ok (.lload_n 3, 1) := by decide +kernel
theorem dX1_numberOneByOne_13 : decode cX1_numberOneByOne 13 = .ok (.iload 5, 2) := by decide +kernel
theorem dX1_numberOneByOne_15 : decode cX1_numberOneByOne 15 = .ok (.invokestatic 26, 3) := by decide +kernel
theorem dX1_numberOneByOne_18 : decode cX1_numberOneByOne 18 = .ok (.ifCond .eq 9, 3) := by decide +kernel
theorem dX1_numberOneByOne_21 : decode cX1_numberOneByOne 21 = .ok (.ldc2_w 30, 3) := by decide +kernel
theorem dX1_numberOneByOne_24 : decode cX1_numberOneByOne 24 = .ok (.goto 6, 3) := by decide +kernel
theorem dX1_numberOneByOne_27 : decode cX1_numberOneByOne 27 = .ok (.ldc2_w 32, 3) := by decide +kernel
theorem dX1_numberOneByOne_30 : decode cX1_numberOneByOne 30 = .ok (.ladd, 1) := by decide +kernel
theorem dX1_numberOneByOne_31 : decode cX1_numberOneByOne 31 = .ok (.lstore_n 3, 1) := by decide +kernel
theorem dX1_numberOneByOne_32 : decode cX1_numberOneByOne 32 = .ok (.iinc 5 1, 3) := by decide +kernel
theorem dX1_numberOneByOne_35 : decode cX1_numberOneByOne 35 = .ok (.goto (-29), 3) := by decide +kernel
theorem dX1_numberOneByOne_38 : decode cX1_numberOneByOne 38 = .ok (.iconst 1, 1) := by decide +kernel
theorem dX1_numberOneByOne_39 : decode cX1_numberOneByOne 39 = .ok (.istore 5, 2) := by decide +kernel
theorem dX1_numberOneByOne_41 : decode cX1_numberOneByOne 41 = .ok (.iload 5, 2) := by decide +kernel
theorem dX1_numberOneByOne_43 : decode cX1_numberOneByOne 43 = .ok (.iload_n 1, 1) := by decide +kernel
theorem dX1_numberOneByOne_44 : decode cX1_numberOneByOne 44 = .ok (.if_icmp .ge 19, 3) := by decide +kernel
theorem dX1_numberOneByOne_47 : decode cX1_numberOneByOne 47 = .ok (.lload_n 3, 1) := by decide +kernel
theorem dX1_numberOneByOne_48 : decode cX1_numberOneByOne 48 = .ok (.iload_n 0, 1) := by decide +kernel
theorem dX1_numberOneByOne_49 : decode cX1_numberOneByOne 49 = .ok (.iload 5, 2) := by decide +kernel
theorem dX1_numberOneByOne_51 : decode cX1_numberOneByOne 51 = .ok (.invokestatic 15, 3) := by decide +kernel
theorem dX1_numberOneByOne_54 : decode cX1_numberOneByOne 54 = .ok (.i2l, 1) := by decide +kernel
theorem dX1_numberOneByOne_55 : decode cX1_numberOneByOne 55 = .ok (.ladd, 1) := by decide +kernel
theorem dX1_numberOneByOne_56 : decode cX1_numberOneByOne 56 = .ok (.lstore_n 3, 1) := by decide +kernel
theorem dX1_numberOneByOne_57 : decode cX1_numberOneByOne 57 = .ok (.iinc 5 1, 3) := by decide +kernel
theorem dX1_numberOneByOne_60 : decode cX1_numberOneByOne 60 = .ok (.goto (-19), 3) := by decide +kernel
theorem dX1_numberOneByOne_63 : decode cX1_numberOneByOne 63 = .ok (.lload_n 3, 1) := by decide +kernel
theorem dX1_numberOneByOne_64 : decode cX1_numberOneByOne 64 = .ok (.lreturn, 1) := by decide +kernel
theorem dX1_weekdayOf_0 : decode cX1_weekdayOf 0 = .ok (.lload_n 0, 1) := by decide +kernel
theorem dX1_weekdayOf_1 : decode cX1_weekdayOf 1 = .ok (.lconst 1, 1) := by decide +kernel
theorem dX1_weekdayOf_2 : decode cX1_weekdayOf 2 = .ok (.lsub, 1) := by decide +kernel
theorem dX1_weekdayOf_3 : decode cX1_weekdayOf 3 = .ok (.ldc2_w 34, 3) := by decide +kernel
theorem dX1_weekdayOf_6 : decode cX1_weekdayOf 6 = .ok (.invokestatic 36, 3) := by decide +kernel
theorem dX1_weekdayOf_9 : decode cX1_weekdayOf 9 = .ok (.l2i, 1) := by decide +kernel
theorem dX1_weekdayOf_10 : decode cX1_weekdayOf 10 = .ok (.ireturn, 1) := by decide +kernel
theorem dX1_yearOf_0 : decode cX1_yearOf 0 = .ok (.lload_n 0, 1) := by decide +kernel
theorem dX1_yearOf_1 : decode cX1_yearOf 1 = .ok (.lconst 1, 1) := by decide +kernel
theorem dX1_yearOf_2 : decode cX1_yearOf 2 = .ok (.lsub, 1) := by decide +kernel
theorem dX1_yearOf_3 : decode cX1_yearOf 3 = .ok (.lstore_n 2, 1) := by decide +kernel
theorem dX1_yearOf_4 : decode cX1_yearOf 4 = .ok (.lload_n 2, 1) := by decide +kernel
theorem dX1_yearOf_5 : decode cX1_yearOf 5 = .ok (.ldc2_w 42, 3) := by decide +kernel
theorem dX1_yearOf_8 : decode cX1_yearOf 8 = .ok (.ldiv, 1) := by decide +kernel
theorem dX1_yearOf_9 : decode cX1_yearOf 9 = .ok (.lstore 4, 2) := by decide +kernel
theorem dX1_yearOf_11 : decode cX1_yearOf 11 = .ok (.lload_n 2, 1) := by decide +kernel
theorem dX1_yearOf_12 : decode cX1_yearOf 12 = .ok (.ldc2_w 42, 3) := by decide +kernel
theorem dX1_yearOf_15 : decode cX1_yearOf 15 = .ok (.lrem, 1) := by decide +kernel
theorem dX1_yearOf_16 : decode cX1_yearOf 16 = .ok (.lstore_n 2, 1) := by decide +kernel
theorem dX1_yearOf_17 : decode cX1_yearOf 17 = .ok (.ldc2_w 44, 3) := by decide +kernel
theorem dX1_yearOf_20 : decode cX1_yearOf 20 = .ok (.lload_n 2, 1) := by decide +kernel
theorem dX1_yearOf_21 : decode cX1_yearOf 21 = .ok (.ldc2_w 46, 3) := by decide +kernel
theorem dX1_yearOf_24 : decode cX1_yearOf 24 = .ok (.ldiv, 1) := by decide +kernel
theorem dX1_yearOf_25 : decode cX1_yearOf 25 = .ok (.invokestatic 48, 3) := by decide +kernel
theorem dX1_yearOf_28 : decode cX1_yearOf 28 = .ok (.lstore 6, 2) := by decide +kernel
theorem dX1_yearOf_30 : decode cX1_yearOf 30 = .ok (.lload_n 2, 1) := by decide +kernel
theorem dX1_yearOf_31 : decode cX1_yearOf 31 = .ok (.lload 6, 2) := by decide +kernel
theorem dX1_yearOf_33 : decode cX1_yearOf 33 = .ok (.ldc2_w 46, 3) := by decide +kernel
theorem dX1_yearOf_36 : decode cX1_yearOf 36 = .ok (.lmul, 1) := by decide +kernel
theorem dX1_yearOf_37 : decode cX1_yearOf 37 = .ok (.lsub, 1) := by decide +kernel
theorem dX1_yearOf_38 : decode cX1_yearOf 38 = .ok (.lstore_n 2, 1) := by decide +kernel
theorem dX1_yearOf_39 : decode cX1_yearOf 39 = .ok (.lload_n 2, 1) := by decide +kernel
theorem dX1_yearOf_40 : decode cX1_yearOf 40 = .ok (.ldc2_w 51, 3) := by decide +kernel
theorem dX1_yearOf_43 : decode cX1_yearOf 43 = .ok (.ldiv, 1) := by decide +kernel
theorem dX1_yearOf_44 : decode cX1_yearOf 44 = .ok (.lstore 8, 2) := by decide +kernel
theorem dX1_yearOf_46 : decode cX1_yearOf 46 = .ok (.lload_n 2, 1) := by decide +kernel
theorem dX1_yearOf_47 : decode cX1_yearOf 47 = .ok (.ldc2_w 51, 3) := by decide +kernel
theorem dX1_yearOf_50 : decode cX1_yearOf 50 = .ok (.lrem, 1) := by decide +kernel
theorem dX1_yearOf_51 : decode cX1_yearOf 51 = .ok (.lstore_n 2, 1) := by decide +kernel
theorem dX1_yearOf_52 : decode cX1_yearOf 52 = .ok (.ldc2_w 44, 3) := by decide +kernel
theorem dX1_yearOf_55 : decode cX1_yearOf 55 = .ok (.lload_n 2, 1) := by decide +kernel
theorem dX1_yearOf_56 : decode cX1_yearOf 56 = .ok (.ldc2_w 32, 3) := by decide +kernel
theorem dX1_yearOf_59 : decode cX1_yearOf 59 = .ok (.ldiv, 1) := by decide +kernel
theorem dX1_yearOf_60 : decode cX1_yearOf 60 = .ok (.invokestatic 48, 3) := by decide +kernel
theorem dX1_yearOf_63 : decode cX1_yearOf 63 = .ok (.lstore 10, 2) := by decide +kernel
theorem dX1_yearOf_65 : decode cX1_yearOf 65 = .ok (.lload 4, 2) := by decide +kernel
theorem dX1_yearOf_67 : decode cX1_yearOf 67 = .ok (.ldc2_w 53, 3) := by decide +kernel
theorem dX1_yearOf_70 : decode cX1_yearOf 70 = .ok (.lmul, 1) := by decide +kernel
theorem dX1_yearOf_71 : decode cX1_yearOf 71 = .ok (.lload 6, 2) := by decide +kernel
theorem dX1_yearOf_73 : decode cX1_yearOf 73 = .ok (.ldc2_w 55, 3) := by decide +kernel
theorem dX1_yearOf_76 : decode cX1_yearOf 76 = .ok (.lmul, 1) := by decide +kernel
theorem dX1_yearOf_77 : decode cX1_yearOf 77 = .ok (.ladd, 1) := by decide +kernel
theorem dX1_yearOf_78 : decode cX1_yearOf 78 = .ok (.lload 8, 2) := by decide +kernel
theorem dX1_yearOf_80 : decode cX1_yearOf 80 = .ok (.ldc2_w 57, 3) := by decide +kernel
theorem dX1_yearOf_83 : decode cX1_yearOf 83 = .ok (.lmul, 1) := by decide +kernel
theorem dX1_yearOf_84 : decode cX1_yearOf 84 = .ok (.ladd, 1) := by decide +kernel
theorem dX1_yearOf_85 : decode cX1_yearOf 85 = .ok (.lload 10, 2) := by decide +kernel
theorem dX1_yearOf_87 : decode cX1_yearOf 87 = .ok (.ladd, 1) := by decide +kernel
theorem dX1_yearOf_88 : decode cX1_yearOf 88 = .ok (.lconst 1, 1) := by decide +kernel
theorem dX1_yearOf_89 : decode cX1_yearOf 89 = .ok (.ladd, 1) := by decide +kernel
theorem dX1_yearOf_90 : decode cX1_yearOf 90 = .ok (.l2i, 1) := by decide +kernel
theorem dX1_yearOf_91 : decode cX1_yearOf 91 = .ok (.ireturn, 1) := by decide +kernel
theorem dX1_monthOf_0 : decode cX1_monthOf 0 = .ok (.lload_n 0, 1) := by decide +kernel
theorem dX1_monthOf_1 : decode cX1_monthOf 1 = .ok (.invokestatic 59, 3) := by decide +kernel
theorem dX1_monthOf_4 : decode cX1_monthOf 4 = .ok (.istore_n 2, 1) := by decide +kernel
theorem dX1_monthOf_5 : decode cX1_monthOf 5 = .ok (.lload_n 0, 1) := by decide +kernel
theorem dX1_monthOf_6 : decode cX1_monthOf 6 = .ok (.iload_n 2, 1) := by decide +kernel
theorem dX1_monthOf_7 : decode cX1_monthOf 7 = .ok (.invokestatic 19, 3) := by decide +kernel
theorem dX1_monthOf_10 : decode cX1_monthOf 10 = .ok (.lsub, 1) := by decide +kernel
theorem dX1_monthOf_11 : decode cX1_monthOf 11 = .ok (.lstore_n 3, 1) := by decide +kernel
theorem dX1_monthOf_12 : decode cX1_monthOf 12 = .ok (.iconst 1, 1) := by decide +kernel
theorem dX1_monthOf_13 : decode cX1_monthOf 13 = .ok (.istore 5, 2) := by decide +kernel
theorem dX1_monthOf_15 : decode cX1_monthOf 15 = .ok (.iload 5, 2) := by decide +kernel
theorem dX1_monthOf_17 : decode cX1_monthOf 17 = .ok (.bipush 12, 2) := by decide +kernel
theorem dX1_monthOf_19 : decode cX1_monthOf 19 = .ok (.if_icmp .ge 23, 3) := by decide +kernel
theorem dX1_monthOf_22 : decode cX1_monthOf 22 = .ok (.iload_n 2, 1) := by decide +kernel
theorem dX1_monthOf_23 : decode cX1_monthOf 23 = .ok (.iload 5, 2) := by decide +kernel
theorem dX1_monthOf_25 : decode cX1_monthOf 25 = .ok (.iconst 1, 1) := by decide +kernel
theorem dX1_monthOf_26 : decode cX1_monthOf 26 = .ok (.iadd, 1) := by decide +kernel
theorem dX1_monthOf_27 : decode cX1_monthOf 27 = .ok (.invokestatic 23, 3) := by decide +kernel
theorem dX1_monthOf_30 : decode cX1_monthOf 30 = .ok (.i2l, 1) := by decide +kernel
theorem dX1_monthOf_31 : decode cX1_monthOf 31 = .ok (.lload_n 3, 1) := by decide +kernel
theorem dX1_monthOf_32 : decode cX1_monthOf 32 = .ok (.lcmp, 1) := by decide +kernel
theorem dX1_monthOf_33 : decode cX1_monthOf 33 = .ok (.ifCond .ge 9, 3) := by decide +kernel
theorem dX1_monthOf_36 : decode cX1_monthOf 36 = .ok (.iinc 5 1, 3) := by decide +kernel
theorem dX1_monthOf_39 : decode cX1_monthOf 39 = .ok (.goto (-24), 3) := by decide +kernel
theorem dX1_monthOf_42 : decode cX1_monthOf 42 = .ok (.iload 5, 2) := by decide +kernel
theorem dX1_monthOf_44 : decode cX1_monthOf 44 = .ok (.ireturn, 1) := by decide +kernel
theorem dX1_dayOf_0 : decode cX1_dayOf 0 = .ok (.lload_n 0, 1) := by decide +kernel
theorem dX1_dayOf_1 : decode cX1_dayOf 1 = .ok (.invokestatic 59, 3) := by decide +kernel
theorem dX1_dayOf_4 : decode cX1_dayOf 4 = .ok (.istore_n 2, 1) := by decide +kernel
theorem dX1_dayOf_5 : decode cX1_dayOf 5 = .ok (.lload_n 0, 1) := by decide +kernel
theorem dX1_dayOf_6 : decode cX1_dayOf 6 = .ok (.iload_n 2, 1) := by decide +kernel
theorem dX1_dayOf_7 : decode cX1_dayOf 7 = .ok (.invokestatic 19, 3) := by decide +kernel
theorem dX1_dayOf_10 : decode cX1_dayOf 10 = .ok (.lsub, 1) := by decide +kernel
theorem dX1_dayOf_11 : decode cX1_dayOf 11 = .ok (.iload_n 2, 1) := by decide +kernel
theorem dX1_dayOf_12 : decode cX1_dayOf 12 = .ok (.lload_n 0, 1) := by decide +kernel
theorem dX1_dayOf_13 : decode cX1_dayOf 13 = .ok (.invokestatic 63, 3) := by decide +kernel
theorem dX1_dayOf_16 : decode cX1_dayOf 16 = .ok (.invokestatic 23, 3) := by decide +kernel
theorem dX1_dayOf_19 : decode cX1_dayOf 19 = .ok (.i2l, 1) := by decide +kernel
theorem dX1_dayOf_20 : decode cX1_dayOf 20 = .ok (.lsub, 1) := by decide +kernel
theorem dX1_dayOf_21 : decode cX1_dayOf 21 = .ok (.l2i, 1) := by decide +kernel
theorem dX1_dayOf_22 : decode cX1_dayOf 22 = .ok (.ireturn, 1) := by decide +kernel
theorem dX1_daysOfMonth_0 : decode cX1_daysOfMonth 0 = .ok (.iload_n 1, 1) := by decide +kernel
theorem dX1_daysOfMonth_1 : decode cX1_daysOfMonth 1 = .ok (.iconst 1, 1) := by decide +kernel
theorem dX1_daysOfMonth_2 : decode cX1_daysOfMonth 2 = .ok (.getstatic 66, 3) := by decide +kernel
theorem dX1_daysOfMonth_5 : decode cX1_daysOfMonth 5 = .ok (.arraylength, 1) := by decide +kernel
theorem dX1_daysOfMonth_6 : decode cX1_daysOfMonth 6 = .ok (.invokestatic 9, 3) := by decide +kernel
theorem dX1_daysOfMonth_9 : decode cX1_daysOfMonth 9 = .ok (.ifCond .ne 5, 3) := by decide +kernel
theorem dX1_daysOfMonth_12 : decode cX1_daysOfMonth 12 = .ok (.iconst 0, 1) := by decide +kernel
theorem dX1_daysOfMonth_13 : decode cX1_daysOfMonth 13 = .ok (.ireturn, 1) := by decide +kernel
theorem dX1_daysOfMonth_14 : decode cX1_daysOfMonth 14 = .ok (.getstatic 66, 3) := by decide +kernel
theorem dX1_daysOfMonth_17 : decode cX1_daysOfMonth 17 = .ok (.iload_n 1, 1) := by decide +kernel
theorem dX1_daysOfMonth_18 : decode cX1_daysOfMonth 18 = .ok (.iconst 1, 1) := by decide +kernel
theorem dX1_daysOfMonth_19 : decode cX1_daysOfMonth 19 = .ok (.isub, 1) := by decide +kernel
theorem dX1_daysOfMonth_20 : decode cX1_daysOfMonth 20 = .ok (.iaload, 1) := by decide +kernel
theorem dX1_daysOfMonth_21 : decode cX1_daysOfMonth 21 = .ok (.iload_n 1, 1) := by decide +kernel
theorem dX1_daysOfMonth_22 : decode cX1_daysOfMonth 22 = .ok (.iconst 2, 1) := by decide +kernel
theorem dX1_daysOfMonth_23 : decode cX1_daysOfMonth 23 = .ok (.if_icmp .ne 14, 3) := by decide +kernel
theorem dX1_daysOfMonth_26 : decode cX1_daysOfMonth 26 = .ok (.iload_n 0, 1) := by decide +kernel
theorem dX1_daysOfMonth_27 : decode cX1_daysOfMonth 27 = .ok (.invokestatic 26, 3) := by decide +kernel
theorem dX1_daysOfMonth_30 : decode cX1_daysOfMonth 30 = .ok (.ifCond .eq 7, 3) := by decide +kernel
theorem dX1_daysOfMonth_33 : decode cX1_daysOfMonth 33 = .ok (.iconst 1, 1) := by decide +kernel
theorem dX1_daysOfMonth_34 : decode cX1_daysOfMonth 34 = .ok (.goto 4, 3) := by decide +kernel
theorem dX1_daysOfMonth_37 : decode cX1_daysOfMonth 37 = .ok (.iconst 0, 1) := by decide +kernel
theorem dX1_daysOfMonth_38 : decode cX1_daysOfMonth 38 = .ok (.iadd, 1) := by decide +kernel
theorem dX1_daysOfMonth_39 : decode cX1_daysOfMonth 39 = .ok (.ireturn, 1) := by decide +kernel
theorem dX1_daysBeforeMonth_0 : decode cX1_daysBeforeMonth 0 = .ok (.iload_n 1, 1) := by decide +kernel
theorem dX1_daysBeforeMonth_1 : decode cX1_daysBeforeMonth 1 = .ok (.iconst 1, 1) := by decide +kernel
theorem dX1_daysBeforeMonth_2 : decode cX1_daysBeforeMonth 2 = .ok (.getstatic 70, 3) := by decide +kernel
theorem dX1_daysBeforeMonth_5 : decode cX1_daysBeforeMonth 5 = .ok (.arraylength, 1) := by decide +kernel
theorem dX1_daysBeforeMonth_6 : decode cX1_daysBeforeMonth 6 = .ok (.invokestatic 9, 3) := by decide +kernel
theorem dX1_daysBeforeMonth_9 : decode cX1_daysBeforeMonth 9 = .ok (.ifCond .ne 5, 3) := by decide +kernel
theorem dX1_daysBeforeMonth_12 : decode cX1_daysBeforeMonth 12 = .ok (.iconst 0, 1) := by decide +kernel
theorem dX1_daysBeforeMonth_13 : decode cX1_daysBeforeMonth 13 = .ok (.ireturn, 1) := by decide +kernel
theorem dX1_daysBeforeMonth_14 : decode cX1_daysBeforeMonth 14 = .ok (.getstatic 70, 3) := by decide +kernel
theorem dX1_daysBeforeMonth_17 : decode cX1_daysBeforeMonth 17 = .ok (.iload_n 1, 1) := by decide +kernel
theorem dX1_daysBeforeMonth_18 : decode cX1_daysBeforeMonth 18 = .ok (.iconst 1, 1) := by decide +kernel
theorem dX1_daysBeforeMonth_19 : decode cX1_daysBeforeMonth 19 = .ok (.isub, 1) := by decide +kernel
theorem dX1_daysBeforeMonth_20 : decode cX1_daysBeforeMonth 20 = .ok (.iaload, 1) := by decide +kernel
theorem dX1_daysBeforeMonth_21 : decode cX1_daysBeforeMonth 21 = .ok (.iload_n 1, 1) := by decide +kernel
theorem dX1_daysBeforeMonth_22 : decode cX1_daysBeforeMonth 22 = .ok (.iconst 2, 1) := by decide +kernel
theorem dX1_daysBeforeMonth_23 : decode cX1_daysBeforeMonth 23 = .ok (.if_icmp .le 14, 3) := by decide +kernel
theorem dX1_daysBeforeMonth_26 : decode cX1_daysBeforeMonth 26 = .ok (.iload_n 0, 1) := by decide +kernel
theorem dX1_daysBeforeMonth_27 : decode cX1_daysBeforeMonth 27 = .ok (.invokestatic 26, 3) := by decide +kernel
theorem dX1_daysBeforeMonth_30 : decode cX1_daysBeforeMonth 30 = .ok (.ifCond .eq 7, 3) := by decide +kernel
theorem dX1_daysBeforeMonth_33 : decode cX1_daysBeforeMonth 33 = .ok (.iconst 1, 1) := by decide +kernel
theorem dX1_daysBeforeMonth_34 : decode cX1_daysBeforeMonth 34 = .ok (.goto 4, 3) := by decide +kernel
theorem dX1_daysBeforeMonth_37 : decode cX1_daysBeforeMonth 37 = .ok (.iconst 0, 1) := by decide +kernel
theorem dX1_daysBeforeMonth_38 : decode cX1_daysBeforeMonth 38 = .ok (.iadd, 1) := by decide +kernel
theorem dX1_daysBeforeMonth_39 : decode cX1_daysBeforeMonth 39 = .ok (.ireturn, 1) := by decide +kernel
theorem dX1_daysBeforeYear_0 : decode cX1_daysBeforeYear 0 = .ok (.iload_n 0, 1) := by decide +kernel
theorem dX1_daysBeforeYear_1 : decode cX1_daysBeforeYear 1 = .ok (.iconst 1, 1) := by decide +kernel
theorem dX1_daysBeforeYear_2 : decode cX1_daysBeforeYear 2 = .ok (.isub, 1) := by decide +kernel
theorem dX1_daysBeforeYear_3 : decode cX1_daysBeforeYear 3 = .ok (.i2l, 1) := by decide +kernel
theorem dX1_daysBeforeYear_4 : decode cX1_daysBeforeYear 4 = .ok (.lstore_n 1, 1) := by decide +kernel
theorem dX1_daysBeforeYear_5 : decode cX1_daysBeforeYear 5 = .ok (.lload_n 1, 1) := by decide +kernel
theorem dX1_daysBeforeYear_6 : decode cX1_daysBeforeYear 6 = .ok (.ldc2_w 32, 3) := by decide +kernel
theorem dX1_daysBeforeYear_9 : decode cX1_daysBeforeYear 9 = .ok (.lmul, 1) := by decide +kernel
theorem dX1_daysBeforeYear_10 : decode cX1_daysBeforeYear 10 = .ok (.lload_n 1, 1) := by decide +kernel
theorem dX1_daysBeforeYear_11 : decode cX1_daysBeforeYear 11 = .ok (.ldc2_w 57, 3) := by decide +kernel
theorem dX1_daysBeforeYear_14 : decode cX1_daysBeforeYear 14 = .ok (.ldiv, 1) := by decide +kernel
theorem dX1_daysBeforeYear_15 : decode cX1_daysBeforeYear 15 = .ok (.ladd, 1) := by decide +kernel
theorem dX1_daysBeforeYear_16 : decode cX1_daysBeforeYear 16 = .ok (.lload_n 1, 1) := by decide +kernel
theorem dX1_daysBeforeYear_17 : decode cX1_daysBeforeYear 17 = .ok (.ldc2_w 55, 3) := by decide +kernel
theorem dX1_daysBeforeYear_20 : decode cX1_daysBeforeYear 20 = .ok (.ldiv, 1) := by decide +kernel
theorem dX1_daysBeforeYear_21 : decode cX1_daysBeforeYear 21 = .ok (.lsub, 1) := by decide +kernel
theorem dX1_daysBeforeYear_22 : decode cX1_daysBeforeYear 22 = .ok (.lload_n 1, 1) := by decide +kernel
theorem dX1_daysBeforeYear_23 : decode cX1_daysBeforeYear 23 = .ok (.ldc2_w 53, 3) := by decide +kernel
theorem dX1_daysBeforeYear_26 : decode cX1_daysBeforeYear 26 = .ok (.ldiv, 1) := by decide +kernel
theorem dX1_daysBeforeYear_27 : decode cX1_daysBeforeYear 27 = .ok (.ladd, 1) := by decide +kernel
theorem dX1_daysBeforeYear_28 : decode cX1_daysBeforeYear 28 = .ok (.lreturn, 1) := by decide +kernel
theorem dX2_init_0 : decode cX2_init 0 = .ok (.aload_n 0, 1) := by decide +kernel
theorem dX2_init_1 : decode cX2_init 1 = .ok (.invokespecial 1, 3) := by decide +kernel
theorem dX2_init_4 : decode cX2_init 4 = .ok (.aload_n 0, 1) := by decide +kernel
theorem dX2_init_5 : decode cX2_init 5 = .ok (.iload_n 1, 1) := by decide +kernel
theorem dX2_init_6 : decode cX2_init 6 = .ok (.putfield 7, 3) := by decide +kernel
theorem dX2_init_9 : decode cX2_init 9 = .ok (.aload_n 0, 1) := by decide +kernel
theorem dX2_init_10 : decode cX2_init 10 = .ok (.bipush 32, 2) := by decide +kernel
theorem dX2_init_12 : decode cX2_init 12 = .ok (.newarray .int, 2) := by decide +kernel
theorem dX2_init_14 : decode cX2_init 14 = .ok (.putfield 13, 3) := by decide +kernel
theorem dX2_init_17 : decode cX2_init 17 = .ok (.aload_n 0, 1) := by decide +kernel
theorem dX2_init_18 : decode cX2_init 18 = .ok (.iconst 0, 1) := by decide +kernel
theorem dX2_init_19 : decode cX2_init 19 = .ok (.putfield 17, 3) := by decide +kernel
theorem dX2_init_22 : decode cX2_init 22 = .ok (.return_, 1) := by decide +kernel
theorem dX2_ownNumber_0 : decode cX2_ownNumber 0 = .ok (.aload_n 0, 1) := by decide +kernel
theorem dX2_ownNumber_1 : decode cX2_ownNumber 1 = .ok (.getfield 7, 3) := by decide +kernel
theorem dX2_ownNumber_4 : decode cX2_ownNumber 4 = .ok (.ireturn, 1) := by decide +kernel
theorem dX2_pinCount_0 : decode cX2_pinCount 0 = .ok (.aload_n 0, 1) := by decide +kernel
theorem dX2_pinCount_1 : decode cX2_pinCount 1 = .ok (.getfield 17, 3) := by decide +kernel
theorem dX2_pinCount_4 : decode cX2_pinCount 4 = .ok (.ireturn, 1) := by decide +kernel
theorem dX2_changePin_0 : decode cX2_changePin 0 = .ok (.aload_n 0, 1) := by decide +kernel
theorem dX2_changePin_1 : decode cX2_changePin 1 = .ok (.iload_n 1, 1) := by decide +kernel
theorem dX2_changePin_2 : decode cX2_changePin 2 = .ok (.iload_n 2, 1) := by decide +kernel
theorem dX2_changePin_3 : decode cX2_changePin 3 = .ok (.invokevirtual 20, 3) := by decide +kernel
theorem dX2_changePin_6 : decode cX2_changePin 6 = .ok (.istore 4, 2) := by decide +kernel
theorem dX2_changePin_8 : decode cX2_changePin 8 = .ok (.iload 4, 2) := by decide +kernel
theorem dX2_changePin_10 : decode cX2_changePin 10 = .ok (.iload_n 3, 1) := by decide +kernel
theorem dX2_changePin_11 : decode cX2_changePin 11 = .ok (.if_icmp .eq 46, 3) := by decide +kernel
theorem dX2_changePin_14 : decode cX2_changePin 14 = .ok (.iload_n 1, 1) := by decide +kernel
theorem dX2_changePin_15 : decode cX2_changePin 15 = .ok (.ifCond .lt 42, 3) := by decide +kernel
theorem dX2_changePin_18 : decode cX2_changePin 18 = .ok (.iload_n 1, 1) := by decide +kernel
theorem dX2_changePin_19 : decode cX2_changePin 19 = .ok (.aload_n 0, 1) := by decide +kernel
theorem dX2_changePin_20 : decode cX2_changePin 20 = .ok (.getfield 13, 3) := by decide +kernel
theorem dX2_changePin_23 : decode cX2_changePin 23 = .ok (.arraylength, 1) := by decide +kernel
theorem dX2_changePin_24 : decode cX2_changePin 24 = .ok (.if_icmp .ge 33, 3) := by decide +kernel
theorem dX2_changePin_27 : decode cX2_changePin 27 = .ok (.aload_n 0, 1) := by decide +kernel
theorem dX2_changePin_28 : decode cX2_changePin 28 = .ok (.getfield 13, 3) := by decide +kernel
theorem dX2_changePin_31 : decode cX2_changePin 31 = .ok (.iload_n 1, 1) := by decide +kernel
theorem dX2_changePin_32 : decode cX2_changePin 32 = .ok (.dup2, 1) := by decide +kernel
theorem dX2_changePin_33 : decode cX2_changePin 33 = .ok (.iaload, 1) := by decide +kernel
theorem dX2_changePin_34 : decode cX2_changePin 34 = .ok (.iconst 1, 1) := by decide +kernel
theorem dX2_changePin_35 : decode cX2_changePin 35 = .ok (.iload_n 2, 1) := by decide +kernel
theorem dX2_changePin_36 : decode cX2_changePin 36 = .ok (.ishl, 1) := by decide +kernel
theorem dX2_changePin_37 : decode cX2_changePin 37 = .ok (.ixor, 1) := by decide +kernel
theorem dX2_changePin_38 : decode cX2_changePin 38 = .ok (.iastore, 1) := by decide +kernel
theorem dX2_changePin_39 : decode cX2_changePin 39 = .ok (.aload_n 0, 1) := by decide +kernel
theorem dX2_changePin_40 : decode cX2_changePin 40 = .ok (.dup, 1) := by decide +kernel
theorem dX2_changePin_41 : decode cX2_changePin 41 = .ok (.getfield 17, 3) := by decide +kernel
theorem dX2_changePin_44 : decode cX2_changePin 44 = .ok (.iload_n 3, 1) := by decide +kernel
theorem dX2_changePin_45 : decode cX2_changePin 45 = .ok (.ifCond .eq 7, 3) := by decide +kernel
theorem dX2_changePin_48 : decode cX2_changePin 48 = .ok (.iconst 1, 1) := by decide +kernel
theorem dX2_changePin_49 : decode cX2_changePin 49 = .ok (.goto 4, 3) := by decide +kernel
theorem dX2_changePin_52 : decode cX2_changePin 52 = .ok (.iconst (-1), 1) := by decide +kernel
theorem dX2_changePin_53 : decode cX2_changePin 53 = .ok (.iadd, 1) := by decide +kernel
theorem dX2_changePin_54 : decode cX2_changePin 54 = .ok (.putfield 17, 3) := by decide +kernel
theorem dX2_changePin_57 : decode cX2_changePin 57 = .ok (.iload 4, 2) := by decide +kernel
theorem dX2_changePin_59 : decode cX2_changePin 59 = .ok (.ireturn, 1) := by decide +kernel
theorem dX2_bellOfPin_0 : decode cX2_bellOfPin 0 = .ok (.iload_n 1, 1) := by decide +kernel
theorem dX2_bellOfPin_1 : decode cX2_bellOfPin 1 = .ok (.istore_n 2, 1) := by decide +kernel
theorem dX2_bellOfPin_2 : decode cX2_bellOfPin 2 = .ok (.iconst 0, 1) := by decide +kernel
theorem dX2_bellOfPin_3 : decode cX2_bellOfPin 3 = .ok (.istore_n 3, 1) := by decide +kernel
theorem dX2_bellOfPin_4 : decode cX2_bellOfPin 4 = .ok (.iload_n 3, 1) := by decide +kernel
theorem dX2_bellOfPin_5 : decode cX2_bellOfPin 5 = .ok (.bipush 32, 2) := by decide +kernel
theorem dX2_bellOfPin_7 : decode cX2_bellOfPin 7 = .ok (.if_icmp .ge 45, 3) := by decide +kernel
theorem dX2_bellOfPin_10 : decode cX2_bellOfPin 10 = .ok (.iconst 1, 1) := by decide +kernel
theorem dX2_bellOfPin_11 : decode cX2_bellOfPin 11 = .ok (.istore 4, 2) := by decide +kernel
theorem dX2_bellOfPin_13 : decode cX2_bellOfPin 13 = .ok (.iload 4, 2) := by decide +kernel
theorem dX2_bellOfPin_15 : decode cX2_bellOfPin 15 = .ok (.bipush 8, 2) := by decide +kernel
theorem dX2_bellOfPin_17 : decode cX2_bellOfPin 17 = .ok (.if_icmp .gt 29, 3) := by decide +kernel
theorem dX2_bellOfPin_20 : decode cX2_bellOfPin 20 = .ok (.aload_n 0, 1) := by decide +kernel
theorem dX2_bellOfPin_21 : decode cX2_bellOfPin 21 = .ok (.iload_n 3, 1) := by decide +kernel
theorem dX2_bellOfPin_22 : decode cX2_bellOfPin 22 = .ok (.iload 4, 2) := by decide +kernel
theorem dX2_bellOfPin_24 : decode cX2_bellOfPin 24 = .ok (.invokevirtual 20, 3) := by decide +kernel
theorem dX2_bellOfPin_27 : decode cX2_bellOfPin 27 = .ok (.ifCond .eq 13, 3) := by decide +kernel
theorem dX2_bellOfPin_30 : decode cX2_bellOfPin 30 = .ok (.iload_n 2, 1) := by decide +kernel
theorem dX2_bellOfPin_31 : decode cX2_bellOfPin 31 = .ok (.ifCond .ne 6, 3) := by decide +kernel
theorem dX2_bellOfPin_34 : decode cX2_bellOfPin 34 = .ok (.iload 4, 2) := by decide +kernel
theorem dX2_bellOfPin_36 : decode cX2_bellOfPin 36 = .ok (.ireturn, 1) := by decide +kernel
theorem dX2_bellOfPin_37 : decode cX2_bellOfPin 37 = .ok (.iinc 2 (-1), 3) := by decide +kernel
theorem dX2_bellOfPin_40 : decode cX2_bellOfPin 40 = .ok (.iinc 4 1, 3) := by decide +kernel
theorem dX2_bellOfPin_43 : decode cX2_bellOfPin 43 = .ok (.goto (-30), 3) := by decide +kernel
theorem dX2_bellOfPin_46 : decode cX2_bellOfPin 46 = .ok (.iinc 3 1, 3) := by decide +kernel
theorem dX2_bellOfPin_49 : decode cX2_bellOfPin 49 = .ok (.goto (-45), 3) := by decide +kernel
theorem dX2_bellOfPin_52 : decode cX2_bellOfPin 52 = .ok (.iconst 0, 1) := by decide +kernel
theorem dX2_bellOfPin_53 : decode cX2_bellOfPin 53 = .ok (.ireturn, 1) := by decide +kernel
theorem dX2_play_0 : decode cX2_play 0 = .ok (.iconst 0, 1) := by decide +kernel
theorem dX2_play_1 : decode cX2_play 1 = .ok (.istore_n 2, 1) := by decide +kernel
theorem dX2_play_2 : decode cX2_play 2 = .ok (.iload_n 2, 1) := by decide +kernel
theorem dX2_play_3 : decode cX2_play 3 = .ok (.bipush 32, 2) := by decide +kernel
theorem dX2_play_5 : decode cX2_play 5 = .ok (.if_icmp .ge 45, 3) := by decide +kernel
theorem dX2_play_8 : decode cX2_play 8 = .ok (.iconst 1, 1) := by decide +kernel
theorem dX2_play_9 : decode cX2_play 9 = .ok (.istore_n 3, 1) := by decide +kernel
theorem dX2_play_10 : decode cX2_play 10 = .ok (.iload_n 3, 1) := by decide +kernel
theorem dX2_play_11 : decode cX2_play 11 = .ok (.bipush 8, 2) := by decide +kernel
theorem dX2_play_13 : decode cX2_play 13 = .ok (.if_icmp .gt 31, 3) := by decide +kernel
theorem dX2_play_16 : decode cX2_play 16 = .ok (.iload_n 3, 1) := by decide +kernel
theorem dX2_play_17 : decode cX2_play 17 = .ok (.aload_n 1, 1) := by decide +kernel
theorem dX2_play_18 : decode cX2_play 18 = .ok (.arraylength, 1) := by decide +kernel
theorem dX2_play_19 : decode cX2_play 19 = .ok (.if_icmp .ge 25, 3) := by decide +kernel
theorem dX2_play_22 : decode cX2_play 22 = .ok (.aload_n 0, 1) := by decide +kernel
theorem dX2_play_23 : decode cX2_play 23 = .ok (.iload_n 2, 1) := by decide +kernel
theorem dX2_play_24 : decode cX2_play 24 = .ok (.iload_n 3, 1) := by decide +kernel
theorem dX2_play_25 : decode cX2_play 25 = .ok (.invokevirtual 20, 3) := by decide +kernel
theorem dX2_play_28 : decode cX2_play 28 = .ok (.ifCond .eq 10, 3) := by decide +kernel
theorem dX2_play_31 : decode cX2_play 31 = .ok (.aload_n 1, 1) := by decide +kernel
theorem dX2_play_32 : decode cX2_play 32 = .ok (.iload_n 3, 1) := by decide +kernel
theorem dX2_play_33 : decode cX2_play 33 = .ok (.dup2, 1) := by decide +kernel
theorem dX2_play_34 : decode cX2_play 34 = .ok (.iaload, 1) := by decide +kernel
theorem dX2_play_35 : decode cX2_play 35 = .ok (.iconst 1, 1) := by decide +kernel
theorem dX2_play_36 : decode cX2_play 36 = .ok (.iadd, 1) := by decide +kernel
theorem dX2_play_37 : decode cX2_play 37 = .ok (.iastore, 1) := by decide +kernel
theorem dX2_play_38 : decode cX2_play 38 = .ok (.iinc 3 1, 3) := by decide +kernel
theorem dX2_play_41 : decode cX2_play 41 = .ok (.goto (-31), 3) := by decide +kernel
theorem dX2_play_44 : decode cX2_play 44 = .ok (.iinc 2 1, 3) := by decide +kernel
theorem dX2_play_47 : decode cX2_play 47 = .ok (.goto (-45), 3) := by decide +kernel
theorem dX2_play_50 : decode cX2_play 50 = .ok (.return_, 1) := by decide +kernel
theorem dX2_hasPin_0 : decode cX2_hasPin 0 = .ok (.iload_n 1, 1) := by decide +kernel
theorem dX2_hasPin_1 : decode cX2_hasPin 1 = .ok (.ifCond .lt 30, 3) := by decide +kernel
theorem dX2_hasPin_4 : decode cX2_hasPin 4 = .ok (.iload_n 1, 1) := by decide +kernel
theorem dX2_hasPin_5 : decode cX2_hasPin 5 = .ok (.aload_n 0, 1) := by decide +kernel
theorem dX2_hasPin_6 : decode cX2_hasPin 6 = .ok (.getfield 13, 3) := by decide +kernel
theorem dX2_hasPin_9 : decode cX2_hasPin 9 = .ok (.arraylength, 1) := by decide +kernel
theorem dX2_hasPin_10 : decode cX2_hasPin 10 = .ok (.if_icmp .ge 21, 3) := by decide +kernel
theorem dX2_hasPin_13 : decode cX2_hasPin 13 = .ok (.aload_n 0, 1) := by decide +kernel
theorem dX2_hasPin_14 : decode cX2_hasPin 14 = .ok (.getfield 13, 3) := by decide +kernel
theorem dX2_hasPin_17 : decode cX2_hasPin 17 = .ok (.iload_n 1, 1) := by decide +kernel
theorem dX2_hasPin_18 : decode cX2_hasPin 18 = .ok (.iaload, 1) := by decide +kernel
theorem dX2_hasPin_19 : decode cX2_hasPin 19 = .ok (.iload_n 2, 1) := by decide +kernel
theorem dX2_hasPin_20 : decode cX2_hasPin 20 = .ok (.ishr, 1) := by decide +kernel
theorem dX2_hasPin_21 : decode cX2_hasPin 21 = .ok (.iconst 1, 1) := by decide +kernel
theorem dX2_hasPin_22 : decode cX2_hasPin 22 = .ok (.iand, 1) := by decide +kernel
theorem dX2_hasPin_23 : decode cX2_hasPin 23 = .ok (.iconst 1, 1) := by decide +kernel
theorem dX2_hasPin_24 : decode cX2_hasPin 24 = .ok (.if_icmp .ne 7, 3) := by decide +kernel
theorem dX2_hasPin_27 : decode cX2_hasPin 27 = .ok (.iconst 1, 1) := by decide +kernel
theorem dX2_hasPin_28 : decode cX2_hasPin 28 = .ok (.goto 4, 3) := by decide +kernel
theorem dX2_hasPin_31 : decode cX2_hasPin 31 = .ok (.iconst 0, 1) := by decide +kernel
theorem dX2_hasPin_32 : decode cX2_hasPin 32 = .ok (.ireturn, 1) := by decide +kernel
theorem dX3_init_0 : decode cX3_init 0 = .ok (.aload_n 0, 1) := by decide +kernel
theorem dX3_init_1 : decode cX3_init 1 = .ok (.invokespecial 3, 3) := by decide +kernel
theorem dX3_init_4 : decode cX3_init 4 = .ok (.aload_n 0, 1) := by decide +kernel
theorem dX3_init_5 : decode cX3_init 5 = .ok (.iconst 0, 1) := by decide +kernel
theorem dX3_init_6 : decode cX3_init 6 = .ok (.putfield 9, 3) := by decide +kernel
theorem dX3_init_9 : decode cX3_init 9 = .ok (.aload_n 0, 1) := by decide +kernel
theorem dX3_init_10 : decode cX3_init 10 = .ok (.iconst 0, 1) := by decide +kernel
theorem dX3_init_11 : decode cX3_init 11 = .ok (.putfield 15, 3) := by decide +kernel
theorem dX3_init_14 : decode cX3_init 14 = .ok (.aload_n 0, 1) := by decide +kernel
theorem dX3_init_15 : decode cX3_init 15 = .ok (.iconst 5, 1) := by decide +kernel
theorem dX3_init_16 : decode cX3_init 16 = .ok (.putfield 18, 3) := by decide +kernel
theorem dX3_init_19 : decode cX3_init 19 = .ok (.aload_n 0, 1) := by decide +kernel
theorem dX3_init_20 : decode cX3_init 20 = .ok (.iconst 0, 1) := by decide +kernel
theorem dX3_init_21 : decode cX3_init 21 = .ok (.putfield 21, 3) := by decide +kernel
theorem dX3_init_24 : decode cX3_init 24 = .ok (.return_, 1) := by decide +kernel
theorem dX3_copyFrom_0 : decode cX3_copyFrom 0 = .ok (.aload_n 0, 1) := by decide +kernel
theorem dX3_copyFrom_1 : decode cX3_copyFrom 1 = .ok (.aload_n 1, 1) := by decide +kernel
theorem dX3_copyFrom_2 : decode cX3_copyFrom 2 = .ok (.getfield 9, 3) := by decide +kernel
theorem dX3_copyFrom_5 : decode cX3_copyFrom 5 = .ok (.putfield 9, 3) := by decide +kernel
theorem dX3_copyFrom_8 : decode cX3_copyFrom 8 = .ok (.aload_n 0, 1) := by decide +kernel
theorem dX3_copyFrom_9 : decode cX3_copyFrom 9 = .ok (.aload_n 1, 1) := by decide +kernel
theorem dX3_copyFrom_10 : decode cX3_copyFrom 10 = .ok (.getfield 15, 3) := by decide +kernel
theorem dX3_copyFrom_13 : decode cX3_copyFrom 13 = .ok (.putfield 15, 3) := by decide +kernel
theorem dX3_copyFrom_16 : decode cX3_copyFrom 16 = .ok (.aload_n 0, 1) := by decide +kernel
theorem dX3_copyFrom_17 : decode cX3_copyFrom 17 = .ok (.aload_n 1, 1) := by decide +kernel
theorem dX3_copyFrom_18 : decode cX3_copyFrom 18 = .ok (.getfield 18, 3) := by decide +kernel
theorem dX3_copyFrom_21 : decode cX3_copyFrom 21 = .ok (.putfield 18, 3) := by decide +kernel
theorem dX3_copyFrom_24 : decode cX3_copyFrom 24 = .ok (.aload_n 0, 1) := by decide +kernel
theorem dX3_copyFrom_25 : decode cX3_copyFrom 25 = .ok (.aload_n 1, 1) := by decide +kernel
theorem dX3_copyFrom_26 : decode cX3_copyFrom 26 = .ok (.getfield 21, 3) := by decide +kernel
theorem dX3_copyFrom_29 : decode cX3_copyFrom 29 = .ok (.putfield 21, 3) := by decide +kernel
theorem dX3_copyFrom_32 : decode cX3_copyFrom 32 = .ok (.return_, 1) := by decide +kernel
theorem dX3_seconds_0 : decode cX3_seconds 0 = .ok (.aload_n 0, 1) := by decide +kernel
theorem dX3_seconds_1 : decode cX3_seconds 1 = .ok (.getfield 9, 3) := by decide +kernel
theorem dX3_seconds_4 : decode cX3_seconds 4 = .ok (.ireturn, 1) := by decide +kernel
theorem dX3_owedSeconds_0 : decode cX3_owedSeconds 0 = .ok (.aload_n 0, 1) := by decide +kernel
theorem dX3_owedSeconds_1 : decode cX3_owedSeconds 1 = .ok (.getfield 15, 3) := by decide +kernel
theorem dX3_owedSeconds_4 : decode cX3_owedSeconds 4 = .ok (.ireturn, 1) := by decide +kernel
theorem dX3_greatestMark_0 : decode cX3_greatestMark 0 = .ok (.aload_n 0, 1) := by decide +kernel
theorem dX3_greatestMark_1 : decode cX3_greatestMark 1 = .ok (.getfield 21, 3) := by decide +kernel
theorem dX3_greatestMark_4 : decode cX3_greatestMark 4 = .ok (.ireturn, 1) := by decide +kernel
theorem dX3_addOwed_0 : decode cX3_addOwed 0 = .ok (.aload_n 0, 1) := by decide +kernel
theorem dX3_addOwed_1 : decode cX3_addOwed 1 = .ok (.dup, 1) := by decide +kernel
theorem dX3_addOwed_2 : decode cX3_addOwed 2 = .ok (.getfield 15, 3) := by decide +kernel
theorem dX3_addOwed_5 : decode cX3_addOwed 5 = .ok (.iload_n 1, 1) := by decide +kernel
theorem dX3_addOwed_6 : decode cX3_addOwed 6 = .ok (.iadd, 1) := by decide +kernel
theorem dX3_addOwed_7 : decode cX3_addOwed 7 = .ok (.putfield 15, 3) := by decide +kernel
theorem dX3_addOwed_10 : decode cX3_addOwed 10 = .ok (.aload_n 0, 1) := by decide +kernel
theorem dX3_addOwed_11 : decode cX3_addOwed 11 = .ok (.getfield 15, 3) := by decide +kernel
theorem dX3_addOwed_14 : decode cX3_addOwed 14 = .ok (.ireturn, 1) := by decide +kernel
theorem dX3_changeBound_0 : decode cX3_changeBound 0 = .ok (.aload_n 0, 1) := by decide +kernel
theorem dX3_changeBound_1 : decode cX3_changeBound 1 = .ok (.getfield 18, 3) := by decide +kernel
theorem dX3_changeBound_4 : decode cX3_changeBound 4 = .ok (.istore_n 2, 1) := by decide +kernel
theorem dX3_changeBound_5 : decode cX3_changeBound 5 = .ok (.aload_n 0, 1) := by decide +kernel
theorem dX3_changeBound_6 : decode cX3_changeBound 6 = .ok (.iload_n 1, 1) := by decide +kernel
theorem dX3_changeBound_7 : decode cX3_changeBound 7 = .ok (.putfield 18, 3) := by decide +kernel
theorem dX3_changeBound_10 : decode cX3_changeBound 10 = .ok (.iload_n 2, 1) := by decide +kernel
theorem dX3_changeBound_11 : decode cX3_changeBound 11 = .ok (.ireturn, 1) := by decide +kernel
theorem dX3_secondsToFullMinute_0 : decode cX3_secondsToFullMinute 0 = .ok (.bipush 60, 2) := by decide +kernel
theorem dX3_secondsToFullMinute_2 : decode cX3_secondsToFullMinute 2 = .ok (.aload_n 0, 1) := by decide +kernel
theorem dX3_secondsToFullMinute_3 : decode cX3_secondsToFullMinute 3 = .ok (.getfield 9, 3) := by decide +kernel
theorem dX3_secondsToFullMinute_6 : decode cX3_secondsToFullMinute 6 = .ok (.bipush 60, 2) := by decide +kernel
theorem dX3_secondsToFullMinute_8 : decode cX3_secondsToFullMinute 8 = .ok (.invokestatic 24, 3) := by decide +kernel
theorem dX3_secondsToFullMinute_11 : decode cX3_secondsToFullMinute 11 = .ok (.isub, 1) := by decide +kernel
theorem dX3_secondsToFullMinute_12 : decode cX3_secondsToFullMinute 12 = .ok (.ireturn, 1) := by decide +kernel
theorem dX3_addSeconds_0 : decode cX3_addSeconds 0 = .ok (.aload_n 0, 1) := by decide +kernel
theorem dX3_addSeconds_1 : decode cX3_addSeconds 1 = .ok (.dup, 1) := by decide +kernel
theorem dX3_addSeconds_2 : decode cX3_addSeconds 2 = .ok (.getfield 9, 3) := by decide +kernel
theorem dX3_addSeconds_5 : decode cX3_addSeconds 5 = .ok (.iload_n 1, 1) := by decide +kernel
theorem dX3_addSeconds_6 : decode cX3_addSeconds 6 = .ok (.iadd, 1) := by decide +kernel
theorem dX3_addSeconds_7 : decode cX3_addSeconds 7 = .ok (.putfield 9, 3) := by decide +kernel
theorem dX3_addSeconds_10 : decode cX3_addSeconds 10 = .ok (.return_, 1) := by decide +kernel
theorem dX3_isFullMinute_0 : decode cX3_isFullMinute 0 = .ok (.aload_n 0, 1) := by decide +kernel
theorem dX3_isFullMinute_1 : decode cX3_isFullMinute 1 = .ok (.getfield 9, 3) := by decide +kernel
theorem dX3_isFullMinute_4 : decode cX3_isFullMinute 4 = .ok (.bipush 60, 2) := by decide +kernel
theorem dX3_isFullMinute_6 : decode cX3_isFullMinute 6 = .ok (.irem, 1) := by decide +kernel
theorem dX3_isFullMinute_7 : decode cX3_isFullMinute 7 = .ok (.ifCond .ne 7, 3) := by decide +kernel
theorem dX3_isFullMinute_10 : decode cX3_isFullMinute 10 = .ok (.iconst 1, 1) := by decide +kernel
theorem dX3_isFullMinute_11 : decode cX3_isFullMinute 11 = .ok (.goto 4, 3) := by decide +kernel
theorem dX3_isFullMinute_14 : decode cX3_isFullMinute 14 = .ok (.iconst 0, 1) := by decide +kernel
theorem dX3_isFullMinute_15 : decode cX3_isFullMinute 15 = .ok (.ireturn, 1) := by decide +kernel
theorem dX3_reachMark_0 : decode cX3_reachMark 0 = .ok (.aload_n 0, 1) := by decide +kernel
theorem dX3_reachMark_1 : decode cX3_reachMark 1 = .ok (.getfield 9, 3) := by decide +kernel
theorem dX3_reachMark_4 : decode cX3_reachMark 4 = .ok (.sipush 900, 3) := by decide +kernel
theorem dX3_reachMark_7 : decode cX3_reachMark 7 = .ok (.irem, 1) := by decide +kernel
theorem dX3_reachMark_8 : decode cX3_reachMark 8 = .ok (.ifCond .ne 18, 3) := by decide +kernel
theorem dX3_reachMark_11 : decode cX3_reachMark 11 = .ok (.aload_n 0, 1) := by decide +kernel
theorem dX3_reachMark_12 : decode cX3_reachMark 12 = .ok (.getfield 9, 3) := by decide +kernel
theorem dX3_reachMark_15 : decode cX3_reachMark 15 = .ok (.sipush 900, 3) := by decide +kernel
theorem dX3_reachMark_18 : decode cX3_reachMark 18 = .ok (.idiv, 1) := by decide +kernel
theorem dX3_reachMark_19 : decode cX3_reachMark 19 = .ok (.aload_n 0, 1) := by decide +kernel
theorem dX3_reachMark_20 : decode cX3_reachMark 20 = .ok (.getfield 21, 3) := by decide +kernel
theorem dX3_reachMark_23 : decode cX3_reachMark 23 = .ok (.if_icmp .gt 5, 3) := by decide +kernel
theorem dX3_reachMark_26 : decode cX3_reachMark 26 = .ok (.iconst 0, 1) := by decide +kernel
theorem dX3_reachMark_27 : decode cX3_reachMark 27 = .ok (.ireturn, 1) := by decide +kernel
theorem dX3_reachMark_28 : decode cX3_reachMark 28 = .ok (.aload_n 0, 1) := by decide +kernel
theorem dX3_reachMark_29 : decode cX3_reachMark 29 = .ok (.aload_n 0, 1) := by decide +kernel
theorem dX3_reachMark_30 : decode cX3_reachMark 30 = .ok (.getfield 9, 3) := by decide +kernel
theorem dX3_reachMark_33 : decode cX3_reachMark 33 = .ok (.sipush 900, 3) := by decide +kernel
theorem dX3_reachMark_36 : decode cX3_reachMark 36 = .ok (.idiv, 1) := by decide +kernel
theorem dX3_reachMark_37 : decode cX3_reachMark 37 = .ok (.putfield 21, 3) := by decide +kernel
theorem dX3_reachMark_40 : decode cX3_reachMark 40 = .ok (.iconst 1, 1) := by decide +kernel
theorem dX3_reachMark_41 : decode cX3_reachMark 41 = .ok (.ireturn, 1) := by decide +kernel
theorem dX3_correct_0 : decode cX3_correct 0 = .ok (.aload_n 0, 1) := by decide +kernel
theorem dX3_correct_1 : decode cX3_correct 1 = .ok (.getfield 18, 3) := by decide +kernel
theorem dX3_correct_4 : decode cX3_correct 4 = .ok (.ineg, 1) := by decide +kernel
theorem dX3_correct_5 : decode cX3_correct 5 = .ok (.aload_n 0, 1) := by decide +kernel
theorem dX3_correct_6 : decode cX3_correct 6 = .ok (.getfield 18, 3) := by decide +kernel
theorem dX3_correct_9 : decode cX3_correct 9 = .ok (.aload_n 0, 1) := by decide +kernel
theorem dX3_correct_10 : decode cX3_correct 10 = .ok (.getfield 15, 3) := by decide +kernel
theorem dX3_correct_13 : decode cX3_correct 13 = .ok (.invokestatic 30, 3) := by decide +kernel
theorem dX3_correct_16 : decode cX3_correct 16 = .ok (.invokestatic 33, 3) := by decide +kernel
theorem dX3_correct_19 : decode cX3_correct 19 = .ok (.istore_n 1, 1) := by decide +kernel
theorem dX3_correct_20 : decode cX3_correct 20 = .ok (.aload_n 0, 1) := by decide +kernel
theorem dX3_correct_21 : decode cX3_correct 21 = .ok (.dup, 1) := by decide +kernel
theorem dX3_correct_22 : decode cX3_correct 22 = .ok (.getfield 9, 3) := by decide +kernel
theorem dX3_correct_25 : decode cX3_correct 25 = .ok (.iload_n 1, 1) := by decide +kernel
theorem dX3_correct_26 : decode cX3_correct 26 = .ok (.iadd, 1) := by decide +kernel
theorem dX3_correct_27 : decode cX3_correct 27 = .ok (.putfield 9, 3) := by decide +kernel
theorem dX3_correct_30 : decode cX3_correct 30 = .ok (.aload_n 0, 1) := by decide +kernel
theorem dX3_correct_31 : decode cX3_correct 31 = .ok (.dup, 1) := by decide +kernel
theorem dX3_correct_32 : decode cX3_correct 32 = .ok (.getfield 15, 3) := by decide +kernel
theorem dX3_correct_35 : decode cX3_correct 35 = .ok (.iload_n 1, 1) := by decide +kernel
theorem dX3_correct_36 : decode cX3_correct 36 = .ok (.isub, 1) := by decide +kernel
theorem dX3_correct_37 : decode cX3_correct 37 = .ok (.putfield 15, 3) := by decide +kernel
theorem dX3_correct_40 : decode cX3_correct 40 = .ok (.return_, 1) := by decide +kernel
theorem dX4_init_0 : decode cX4_init 0 = .ok (.aload_n 0, 1) := by decide +kernel
theorem dX4_init_1 : decode cX4_init 1 = .ok (.invokespecial 1, 3) := by decide +kernel
theorem dX4_init_4 : decode cX4_init 4 = .ok (.aload_n 0, 1) := by decide +kernel
theorem dX4_init_5 : decode cX4_init 5 = .ok (.iconst 1, 1) := by decide +kernel
theorem dX4_init_6 : decode cX4_init 6 = .ok (.putfield 7, 3) := by decide +kernel
theorem dX4_init_9 : decode cX4_init 9 = .ok (.aload_n 0, 1) := by decide +kernel
theorem dX4_init_10 : decode cX4_init 10 = .ok (.iconst 1, 1) := by decide +kernel
theorem dX4_init_11 : decode cX4_init 11 = .ok (.putfield 13, 3) := by decide +kernel
theorem dX4_init_14 : decode cX4_init 14 = .ok (.aload_n 0, 1) := by decide +kernel
theorem dX4_init_15 : decode cX4_init 15 = .ok (.iconst 0, 1) := by decide +kernel
theorem dX4_init_16 : decode cX4_init 16 = .ok (.putfield 16, 3) := by decide +kernel
theorem dX4_init_19 : decode cX4_init 19 = .ok (.return_, 1) := by decide +kernel
theorem dX4_copyFrom_0 : decode cX4_copyFrom 0 = .ok (.aload_n 0, 1) := by decide +kernel
theorem dX4_copyFrom_1 : decode cX4_copyFrom 1 = .ok (.aload_n 1, 1) := by decide +kernel
theorem dX4_copyFrom_2 : decode cX4_copyFrom 2 = .ok (.getfield 7, 3) := by decide +kernel
theorem dX4_copyFrom_5 : decode cX4_copyFrom 5 = .ok (.putfield 7, 3) := by decide +kernel
theorem dX4_copyFrom_8 : decode cX4_copyFrom 8 = .ok (.aload_n 0, 1) := by decide +kernel
theorem dX4_copyFrom_9 : decode cX4_copyFrom 9 = .ok (.aload_n 1, 1) := by decide +kernel
theorem dX4_copyFrom_10 : decode cX4_copyFrom 10 = .ok (.getfield 13, 3) := by decide +kernel
theorem dX4_copyFrom_13 : decode cX4_copyFrom 13 = .ok (.putfield 13, 3) := by decide +kernel
theorem dX4_copyFrom_16 : decode cX4_copyFrom 16 = .ok (.aload_n 0, 1) := by decide +kernel
theorem dX4_copyFrom_17 : decode cX4_copyFrom 17 = .ok (.aload_n 1, 1) := by decide +kernel
theorem dX4_copyFrom_18 : decode cX4_copyFrom 18 = .ok (.getfield 16, 3) := by decide +kernel
theorem dX4_copyFrom_21 : decode cX4_copyFrom 21 = .ok (.putfield 16, 3) := by decide +kernel
theorem dX4_copyFrom_24 : decode cX4_copyFrom 24 = .ok (.return_, 1) := by decide +kernel
theorem dX4_change_0 : decode cX4_change 0 = .ok (.aload_n 0, 1) := by decide +kernel
theorem dX4_change_1 : decode cX4_change 1 = .ok (.getfield 7, 3) := by decide +kernel
theorem dX4_change_4 : decode cX4_change 4 = .ok (.istore_n 3, 1) := by decide +kernel
theorem dX4_change_5 : decode cX4_change 5 = .ok (.aload_n 0, 1) := by decide +kernel
theorem dX4_change_6 : decode cX4_change 6 = .ok (.iload_n 1, 1) := by decide +kernel
theorem dX4_change_7 : decode cX4_change 7 = .ok (.putfield 7, 3) := by decide +kernel
theorem dX4_change_10 : decode cX4_change 10 = .ok (.aload_n 0, 1) := by decide +kernel
theorem dX4_change_11 : decode cX4_change 11 = .ok (.iload_n 2, 1) := by decide +kernel
theorem dX4_change_12 : decode cX4_change 12 = .ok (.putfield 13, 3) := by decide +kernel
theorem dX4_change_15 : decode cX4_change 15 = .ok (.aload_n 0, 1) := by decide +kernel
theorem dX4_change_16 : decode cX4_change 16 = .ok (.iconst 0, 1) := by decide +kernel
theorem dX4_change_17 : decode cX4_change 17 = .ok (.putfield 16, 3) := by decide +kernel
theorem dX4_change_20 : decode cX4_change 20 = .ok (.iload_n 3, 1) := by decide +kernel
theorem dX4_change_21 : decode cX4_change 21 = .ok (.ireturn, 1) := by decide +kernel
theorem dX4_secondsOf_0 : decode cX4_secondsOf 0 = .ok (.aload_n 0, 1) := by decide +kernel
theorem dX4_secondsOf_1 : decode cX4_secondsOf 1 = .ok (.getfield 16, 3) := by decide +kernel
theorem dX4_secondsOf_4 : decode cX4_secondsOf 4 = .ok (.aload_n 0, 1) := by decide +kernel
theorem dX4_secondsOf_5 : decode cX4_secondsOf 5 = .ok (.getfield 7, 3) := by decide +kernel
theorem dX4_secondsOf_8 : decode cX4_secondsOf 8 = .ok (.iload_n 1, 1) := by decide +kernel
theorem dX4_secondsOf_9 : decode cX4_secondsOf 9 = .ok (.imul, 1) := by decide +kernel
theorem dX4_secondsOf_10 : decode cX4_secondsOf 10 = .ok (.iadd, 1) := by decide +kernel
theorem dX4_secondsOf_11 : decode cX4_secondsOf 11 = .ok (.i2l, 1) := by decide +kernel
theorem dX4_secondsOf_12 : decode cX4_secondsOf 12 = .ok (.aload_n 0, 1) := by decide +kernel
theorem dX4_secondsOf_13 : decode cX4_secondsOf 13 = .ok (.getfield 13, 3) := by decide +kernel
theorem dX4_secondsOf_16 : decode cX4_secondsOf 16 = .ok (.i2l, 1) := by decide +kernel
theorem dX4_secondsOf_17 : decode cX4_secondsOf 17 = .ok (.invokestatic 19, 3) := by decide +kernel
theorem dX4_secondsOf_20 : decode cX4_secondsOf 20 = .ok (.l2i, 1) := by decide +kernel
theorem dX4_secondsOf_21 : decode cX4_secondsOf 21 = .ok (.ireturn, 1) := by decide +kernel
theorem dX4_letPass_0 : decode cX4_letPass 0 = .ok (.aload_n 0, 1) := by decide +kernel
theorem dX4_letPass_1 : decode cX4_letPass 1 = .ok (.iload_n 1, 1) := by decide +kernel
theorem dX4_letPass_2 : decode cX4_letPass 2 = .ok (.invokevirtual 25, 3) := by decide +kernel
theorem dX4_letPass_5 : decode cX4_letPass 5 = .ok (.istore_n 2, 1) := by decide +kernel
theorem dX4_letPass_6 : decode cX4_letPass 6 = .ok (.aload_n 0, 1) := by decide +kernel
theorem dX4_letPass_7 : decode cX4_letPass 7 = .ok (.dup, 1) := by decide +kernel
theorem dX4_letPass_8 : decode cX4_letPass 8 = .ok (.getfield 16, 3) := by decide +kernel
theorem dX4_letPass_11 : decode cX4_letPass 11 = .ok (.aload_n 0, 1) := by decide +kernel
theorem dX4_letPass_12 : decode cX4_letPass 12 = .ok (.getfield 7, 3) := by decide +kernel
theorem dX4_letPass_15 : decode cX4_letPass 15 = .ok (.iload_n 1, 1) := by decide +kernel
theorem dX4_letPass_16 : decode cX4_letPass 16 = .ok (.imul, 1) := by decide +kernel
theorem dX4_letPass_17 : decode cX4_letPass 17 = .ok (.iload_n 2, 1) := by decide +kernel
theorem dX4_letPass_18 : decode cX4_letPass 18 = .ok (.aload_n 0, 1) := by decide +kernel
theorem dX4_letPass_19 : decode cX4_letPass 19 = .ok (.getfield 13, 3) := by decide +kernel
theorem dX4_letPass_22 : decode cX4_letPass 22 = .ok (.imul, 1) := by decide +kernel
theorem dX4_letPass_23 : decode cX4_letPass 23 = .ok (.isub, 1) := by decide +kernel
theorem dX4_letPass_24 : decode cX4_letPass 24 = .ok (.iadd, 1) := by decide +kernel
theorem dX4_letPass_25 : decode cX4_letPass 25 = .ok (.putfield 16, 3) := by decide +kernel
theorem dX4_letPass_28 : decode cX4_letPass 28 = .ok (.iload_n 2, 1) := by decide +kernel
theorem dX4_letPass_29 : decode cX4_letPass 29 = .ok (.ireturn, 1) := by decide +kernel
theorem dX5_init_0 : decode cX5_init 0 = .ok (.aload_n 0, 1) := by decide +kernel
theorem dX5_init_1 : decode cX5_init 1 = .ok (.invokespecial 1, 3) := by decide +kernel
theorem dX5_init_4 : decode cX5_init 4 = .ok (.aload_n 0, 1) := by decide +kernel
theorem dX5_init_5 : decode cX5_init 5 = .ok (.bipush 40, 2) := by decide +kernel
theorem dX5_init_7 : decode cX5_init 7 = .ok (.newarray .int, 2) := by decide +kernel
theorem dX5_init_9 : decode cX5_init 9 = .ok (.putfield 9, 3) := by decide +kernel
theorem dX5_init_12 : decode cX5_init 12 = .ok (.aload_n 0, 1) := by decide +kernel
theorem dX5_init_13 : decode cX5_init 13 = .ok (.bipush 40, 2) := by decide +kernel
theorem dX5_init_15 : decode cX5_init 15 = .ok (.newarray .int, 2) := by decide +kernel
theorem dX5_init_17 : decode cX5_init 17 = .ok (.putfield 13, 3) := by decide +kernel
theorem dX5_init_20 : decode cX5_init 20 = .ok (.aload_n 0, 1) := by decide +kernel
theorem dX5_init_21 : decode cX5_init 21 = .ok (.iconst 0, 1) := by decide +kernel
theorem dX5_init_22 : decode cX5_init 22 = .ok (.putfield 16, 3) := by decide +kernel
theorem dX5_init_25 : decode cX5_init 25 = .ok (.aload_n 0, 1) := by decide +kernel
theorem dX5_init_26 : decode cX5_init 26 = .ok (.lconst 0, 1) := by decide +kernel
theorem dX5_init_27 : decode cX5_init 27 = .ok (.putfield 20, 3) := by decide +kernel
theorem dX5_init_30 : decode cX5_init 30 = .ok (.return_, 1) := by decide +kernel
theorem dX5_keep_0 : decode cX5_keep 0 = .ok (.aload_n 0, 1) := by decide +kernel
theorem dX5_keep_1 : decode cX5_keep 1 = .ok (.dup, 1) := by decide +kernel
theorem dX5_keep_2 : decode cX5_keep 2 = .ok (.getfield 16, 3) := by decide +kernel
theorem dX5_keep_5 : decode cX5_keep 5 = .ok (.iconst 1, 1) := by decide +kernel
theorem dX5_keep_6 : decode cX5_keep 6 = .ok (.iadd, 1) := by decide +kernel
theorem dX5_keep_7 : decode cX5_keep 7 = .ok (.putfield 16, 3) := by decide +kernel
theorem dX5_keep_10 : decode cX5_keep 10 = .ok (.aload_n 0, 1) := by decide +kernel
theorem dX5_keep_11 : decode cX5_keep 11 = .ok (.dup, 1) := by decide +kernel
theorem dX5_keep_12 : decode cX5_keep 12 = .ok (.getfield 20, 3) := by decide +kernel
theorem dX5_keep_15 : decode cX5_keep 15 = .ok (.iload_n 2, 1) := by decide +kernel
theorem dX5_keep_16 : decode cX5_keep 16 = .ok (.i2l, 1) := by decide +kernel
theorem dX5_keep_17 : decode cX5_keep 17 = .ok (.ladd, 1) := by decide +kernel
theorem dX5_keep_18 : decode cX5_keep 18 = .ok (.putfield 20, 3) := by decide +kernel
theorem dX5_keep_21 : decode cX5_keep 21 = .ok (.aload_n 0, 1) := by decide +kernel
theorem dX5_keep_22 : decode cX5_keep 22 = .ok (.getfield 9, 3) := by decide +kernel
theorem dX5_keep_25 : decode cX5_keep 25 = .ok (.aload_n 0, 1) := by decide +kernel
theorem dX5_keep_26 : decode cX5_keep 26 = .ok (.iconst 0, 1) := by decide +kernel
theorem dX5_keep_27 : decode cX5_keep 27 = .ok (.invokevirtual 24, 3) := by decide +kernel
theorem dX5_keep_30 : decode cX5_keep 30 = .ok (.iload_n 1, 1) := by decide +kernel
theorem dX5_keep_31 : decode cX5_keep 31 = .ok (.iastore, 1) := by decide +kernel
theorem dX5_keep_32 : decode cX5_keep 32 = .ok (.aload_n 0, 1) := by decide +kernel
theorem dX5_keep_33 : decode cX5_keep 33 = .ok (.getfield 13, 3) := by decide +kernel
theorem dX5_keep_36 : decode cX5_keep 36 = .ok (.aload_n 0, 1) := by decide +kernel
theorem dX5_keep_37 : decode cX5_keep 37 = .ok (.iconst 0, 1) := by decide +kernel
theorem dX5_keep_38 : decode cX5_keep 38 = .ok (.invokevirtual 24, 3) := by decide +kernel
theorem dX5_keep_41 : decode cX5_keep 41 = .ok (.iload_n 2, 1) := by decide +kernel
theorem dX5_keep_42 : decode cX5_keep 42 = .ok (.iastore, 1) := by decide +kernel
theorem dX5_keep_43 : decode cX5_keep 43 = .ok (.return_, 1) := by decide +kernel
theorem dX5_struckMarks_0 : decode cX5_struckMarks 0 = .ok (.aload_n 0, 1) := by decide +kernel
theorem dX5_struckMarks_1 : decode cX5_struckMarks 1 = .ok (.getfield 16, 3) := by decide +kernel
theorem dX5_struckMarks_4 : decode cX5_struckMarks 4 = .ok (.ireturn, 1) := by decide +kernel
theorem dX5_keptMarks_0 : decode cX5_keptMarks 0 = .ok (.aload_n 0, 1) := by decide +kernel
theorem dX5_keptMarks_1 : decode cX5_keptMarks 1 = .ok (.getfield 16, 3) := by decide +kernel
theorem dX5_keptMarks_4 : decode cX5_keptMarks 4 = .ok (.bipush 40, 2) := by decide +kernel
theorem dX5_keptMarks_6 : decode cX5_keptMarks 6 = .ok (.invokestatic 28, 3) := by decide +kernel
theorem dX5_keptMarks_9 : decode cX5_keptMarks 9 = .ok (.ireturn, 1) := by decide +kernel
theorem dX5_strokesOfAllStrikes_0 : decode cX5_strokesOfAllStrikes 0 = .ok (.aload_n 0, 1) := by decide +kernel
theorem dX5_strokesOfAllStrikes_1 : decode cX5_strokesOfAllStrikes 1 = .ok (.getfield 20, 3) := by decide +kernel
theorem dX5_strokesOfAllStrikes_4 : decode cX5_strokesOfAllStrikes 4 = .ok (.lreturn, 1) := by decide +kernel
theorem dX5_markOfRank_0 : decode cX5_markOfRank 0 = .ok (.aload_n 0, 1) := by decide +kernel
theorem dX5_markOfRank_1 : decode cX5_markOfRank 1 = .ok (.getfield 9, 3) := by decide +kernel
theorem dX5_markOfRank_4 : decode cX5_markOfRank 4 = .ok (.aload_n 0, 1) := by decide +kernel
theorem dX5_markOfRank_5 : decode cX5_markOfRank 5 = .ok (.iload_n 1, 1) := by decide +kernel
theorem dX5_markOfRank_6 : decode cX5_markOfRank 6 = .ok (.invokevirtual 24, 3) := by decide +kernel
theorem dX5_markOfRank_9 : decode cX5_markOfRank 9 = .ok (.iaload, 1) := by decide +kernel
theorem dX5_markOfRank_10 : decode cX5_markOfRank 10 = .ok (.ireturn, 1) := by decide +kernel
theorem dX5_strokesOfRank_0 : decode cX5_strokesOfRank 0 = .ok (.aload_n 0, 1) := by decide +kernel
theorem dX5_strokesOfRank_1 : decode cX5_strokesOfRank 1 = .ok (.getfield 13, 3) := by decide +kernel
theorem dX5_strokesOfRank_4 : decode cX5_strokesOfRank 4 = .ok (.aload_n 0, 1) := by decide +kernel
theorem dX5_strokesOfRank_5 : decode cX5_strokesOfRank 5 = .ok (.iload_n 1, 1) := by decide +kernel
theorem dX5_strokesOfRank_6 : decode cX5_strokesOfRank 6 = .ok (.invokevirtual 24, 3) := by decide +kernel
theorem dX5_strokesOfRank_9 : decode cX5_strokesOfRank 9 = .ok (.iaload, 1) := by decide +kernel
theorem dX5_strokesOfRank_10 : decode cX5_strokesOfRank 10 = .ok (.ireturn, 1) := by decide +kernel
theorem dX5_rankOfMark_0 : decode cX5_rankOfMark 0 = .ok (.iconst 0, 1) := by decide +kernel
theorem dX5_rankOfMark_1 : decode cX5_rankOfMark 1 = .ok (.istore_n 2, 1) := by decide +kernel
theorem dX5_rankOfMark_2 : decode cX5_rankOfMark 2 = .ok (.iload_n 2, 1) := by decide +kernel
theorem dX5_rankOfMark_3 : decode cX5_rankOfMark 3 = .ok (.aload_n 0, 1) := by decide +kernel
theorem dX5_rankOfMark_4 : decode cX5_rankOfMark 4 = .ok (.invokevirtual 34, 3) := by decide +kernel
theorem dX5_rankOfMark_7 : decode cX5_rankOfMark 7 = .ok (.if_icmp .ge 20, 3) := by decide +kernel
theorem dX5_rankOfMark_10 : decode cX5_rankOfMark 10 = .ok (.aload_n 0, 1) := by decide +kernel
theorem dX5_rankOfMark_11 : decode cX5_rankOfMark 11 = .ok (.iload_n 2, 1) := by decide +kernel
theorem dX5_rankOfMark_12 : decode cX5_rankOfMark 12 = .ok (.invokevirtual 38, 3) := by decide +kernel
theorem dX5_rankOfMark_15 : decode cX5_rankOfMark 15 = .ok (.iload_n 1, 1) := by decide +kernel
theorem dX5_rankOfMark_16 : decode cX5_rankOfMark 16 = .ok (.if_icmp .ne 5, 3) := by decide +kernel
theorem dX5_rankOfMark_19 : decode cX5_rankOfMark 19 = .ok (.iload_n 2, 1) := by decide +kernel
theorem dX5_rankOfMark_20 : decode cX5_rankOfMark 20 = .ok (.ireturn, 1) := by decide +kernel
theorem dX5_rankOfMark_21 : decode cX5_rankOfMark 21 = .ok (.iinc 2 1, 3) := by decide +kernel
theorem dX5_rankOfMark_24 : decode cX5_rankOfMark 24 = .ok (.goto (-22), 3) := by decide +kernel
theorem dX5_rankOfMark_27 : decode cX5_rankOfMark 27 = .ok (.iconst (-1), 1) := by decide +kernel
theorem dX5_rankOfMark_28 : decode cX5_rankOfMark 28 = .ok (.ireturn, 1) := by decide +kernel
theorem dX5_isFalling_0 : decode cX5_isFalling 0 = .ok (.iconst 1, 1) := by decide +kernel
theorem dX5_isFalling_1 : decode cX5_isFalling 1 = .ok (.istore_n 1, 1) := by decide +kernel
theorem dX5_isFalling_2 : decode cX5_isFalling 2 = .ok (.iload_n 1, 1) := by decide +kernel
theorem dX5_isFalling_3 : decode cX5_isFalling 3 = .ok (.aload_n 0, 1) := by decide +kernel
theorem dX5_isFalling_4 : decode cX5_isFalling 4 = .ok (.invokevirtual 34, 3) := by decide +kernel
theorem dX5_isFalling_7 : decode cX5_isFalling 7 = .ok (.if_icmp .ge 26, 3) := by decide +kernel
theorem dX5_isFalling_10 : decode cX5_isFalling 10 = .ok (.aload_n 0, 1) := by decide +kernel
theorem dX5_isFalling_11 : decode cX5_isFalling 11 = .ok (.iload_n 1, 1) := by decide +kernel
theorem dX5_isFalling_12 : decode cX5_isFalling 12 = .ok (.invokevirtual 38, 3) := by decide +kernel
theorem dX5_isFalling_15 : decode cX5_isFalling 15 = .ok (.aload_n 0, 1) := by decide +kernel
theorem dX5_isFalling_16 : decode cX5_isFalling 16 = .ok (.iload_n 1, 1) := by decide +kernel
theorem dX5_isFalling_17 : decode cX5_isFalling 17 = .ok (.iconst 1, 1) := by decide +kernel
theorem dX5_isFalling_18 : decode cX5_isFalling 18 = .ok (.isub, 1) := by decide +kernel
theorem dX5_isFalling_19 : decode cX5_isFalling 19 = .ok (.invokevirtual 38, 3) := by decide +kernel
theorem dX5_isFalling_22 : decode cX5_isFalling 22 = .ok (.if_icmp .lt 5, 3) := by decide +kernel
theorem dX5_isFalling_25 : decode cX5_isFalling 25 = .ok (.iconst 0, 1) := by decide +kernel
theorem dX5_isFalling_26 : decode cX5_isFalling 26 = .ok (.ireturn, 1) := by decide +kernel
theorem dX5_isFalling_27 : decode cX5_isFalling 27 = .ok (.iinc 1 1, 3) := by decide +kernel
theorem dX5_isFalling_30 : decode cX5_isFalling 30 = .ok (.goto (-28), 3) := by decide +kernel
theorem dX5_isFalling_33 : decode cX5_isFalling 33 = .ok (.iconst 1, 1) := by decide +kernel
theorem dX5_isFalling_34 : decode cX5_isFalling 34 = .ok (.ireturn, 1) := by decide +kernel
theorem dX5_slotOf_0 : decode cX5_slotOf 0 = .ok (.aload_n 0, 1) := by decide +kernel
theorem dX5_slotOf_1 : decode cX5_slotOf 1 = .ok (.getfield 16, 3) := by decide +kernel
theorem dX5_slotOf_4 : decode cX5_slotOf 4 = .ok (.iconst 1, 1) := by decide +kernel
theorem dX5_slotOf_5 : decode cX5_slotOf 5 = .ok (.isub, 1) := by decide +kernel
theorem dX5_slotOf_6 : decode cX5_slotOf 6 = .ok (.iload_n 1, 1) := by decide +kernel
theorem dX5_slotOf_7 : decode cX5_slotOf 7 = .ok (.isub, 1) := by decide +kernel
theorem dX5_slotOf_8 : decode cX5_slotOf 8 = .ok (.bipush 40, 2) := by decide +kernel
theorem dX5_slotOf_10 : decode cX5_slotOf 10 = .ok (.invokestatic 41, 3) := by decide +kernel
theorem dX5_slotOf_13 : decode cX5_slotOf 13 = .ok (.ireturn, 1) := by decide +kernel
theorem dX6_init_0 : decode cX6_init 0 = .ok (.aload_n 0, 1) := by decide +kernel
theorem dX6_init_1 : decode cX6_init 1 = .ok (.invokespecial 1, 3) := by decide +kernel
theorem dX6_init_4 : decode cX6_init 4 = .ok (.aload_n 0, 1) := by decide +kernel
theorem dX6_init_5 : decode cX6_init 5 = .ok (.new 7, 3) := by decide +kernel
theorem dX6_init_8 : decode cX6_init 8 = .ok (.dup, 1) := by decide +kernel
theorem dX6_init_9 : decode cX6_init 9 = .ok (.invokespecial 9, 3) := by decide +kernel
theorem dX6_init_12 : decode cX6_init 12 = .ok (.putfield 10, 3) := by decide +kernel
theorem dX6_init_15 : decode cX6_init 15 = .ok (.aload_n 0, 1) := by decide +kernel
theorem dX6_init_16 : decode cX6_init 16 = .ok (.getfield 10, 3) := by decide +kernel
theorem dX6_init_19 : decode cX6_init 19 = .ok (.new 16, 3) := by decide +kernel
theorem dX6_init_22 : decode cX6_init 22 = .ok (.dup, 1) := by decide +kernel
theorem dX6_init_23 : decode cX6_init 23 = .ok (.bipush 30, 2) := by decide +kernel
theorem dX6_init_25 : decode cX6_init 25 = .ok (.iconst 1, 1) := by decide +kernel
theorem dX6_init_26 : decode cX6_init 26 = .ok (.iconst 1, 1) := by decide +kernel
theorem dX6_init_27 : decode cX6_init 27 = .ok (.lconst 0, 1) := by decide +kernel
theorem dX6_init_28 : decode cX6_init 28 = .ok (.invokespecial 18, 3) := by decide +kernel
theorem dX6_init_31 : decode cX6_init 31 = .ok (.invokevirtual 21, 3) := by decide +kernel
theorem dX6_init_34 : decode cX6_init 34 = .ok (.pop, 1) := by decide +kernel
theorem dX6_init_35 : decode cX6_init 35 = .ok (.return_, 1) := by decide +kernel
theorem dX6_size_0 : decode cX6_size 0 = .ok (.aload_n 0, 1) := by decide +kernel
theorem dX6_size_1 : decode cX6_size 1 = .ok (.getfield 10, 3) := by decide +kernel
theorem dX6_size_4 : decode cX6_size 4 = .ok (.invokevirtual 25, 3) := by decide +kernel
theorem dX6_size_7 : decode cX6_size 7 = .ok (.ireturn, 1) := by decide +kernel
theorem dX6_add_0 : decode cX6_add 0 = .ok (.aload_n 0, 1) := by decide +kernel
theorem dX6_add_1 : decode cX6_add 1 = .ok (.getfield 10, 3) := by decide +kernel
theorem dX6_add_4 : decode cX6_add 4 = .ok (.invokevirtual 25, 3) := by decide +kernel
theorem dX6_add_7 : decode cX6_add 7 = .ok (.istore 5, 2) := by decide +kernel
theorem dX6_add_9 : decode cX6_add 9 = .ok (.aload_n 0, 1) := by decide +kernel
theorem dX6_add_10 : decode cX6_add 10 = .ok (.getfield 10, 3) := by decide +kernel
theorem dX6_add_13 : decode cX6_add 13 = .ok (.new 16, 3) := by decide +kernel
theorem dX6_add_16 : decode cX6_add 16 = .ok (.dup, 1) := by decide +kernel
theorem dX6_add_17 : decode cX6_add 17 = .ok (.iload_n 1, 1) := by decide +kernel
theorem dX6_add_18 : decode cX6_add 18 = .ok (.iload_n 2, 1) := by decide +kernel
theorem dX6_add_19 : decode cX6_add 19 = .ok (.aload_n 0, 1) := by decide +kernel
theorem dX6_add_20 : decode cX6_add 20 = .ok (.iload 5, 2) := by decide +kernel
theorem dX6_add_22 : decode cX6_add 22 = .ok (.iconst 1, 1) := by decide +kernel
theorem dX6_add_23 : decode cX6_add 23 = .ok (.isub, 1) := by decide +kernel
theorem dX6_add_24 : decode cX6_add 24 = .ok (.invokevirtual 29, 3) := by decide +kernel
theorem dX6_add_27 : decode cX6_add 27 = .ok (.aload_n 0, 1) := by decide +kernel
theorem dX6_add_28 : decode cX6_add 28 = .ok (.iload 5, 2) := by decide +kernel
theorem dX6_add_30 : decode cX6_add 30 = .ok (.iconst 1, 1) := by decide +kernel
theorem dX6_add_31 : decode cX6_add 31 = .ok (.isub, 1) := by decide +kernel
theorem dX6_add_32 : decode cX6_add 32 = .ok (.lload_n 3, 1) := by decide +kernel
theorem dX6_add_33 : decode cX6_add 33 = .ok (.invokevirtual 33, 3) := by decide +kernel
theorem dX6_add_36 : decode cX6_add 36 = .ok (.invokespecial 18, 3) := by decide +kernel
theorem dX6_add_39 : decode cX6_add 39 = .ok (.invokevirtual 21, 3) := by decide +kernel
theorem dX6_add_42 : decode cX6_add 42 = .ok (.pop, 1) := by decide +kernel
theorem dX6_add_43 : decode cX6_add 43 = .ok (.iload 5, 2) := by decide +kernel
theorem dX6_add_45 : decode cX6_add 45 = .ok (.ireturn, 1) := by decide +kernel
theorem dX6_movedByRatios_0 : decode cX6_movedByRatios 0 = .ok (.lload_n 2, 1) := by decide +kernel
theorem dX6_movedByRatios_1 : decode cX6_movedByRatios 1 = .ok (.lstore 4, 2) := by decide +kernel
theorem dX6_movedByRatios_3 : decode cX6_movedByRatios 3 = .ok (.iconst 0, 1) := by decide +kernel
theorem dX6_movedByRatios_4 : decode cX6_movedByRatios 4 = .ok (.istore 6, 2) := by decide +kernel
theorem dX6_movedByRatios_6 : decode cX6_movedByRatios 6 = .ok (.iload 6, 2) := by decide +kernel
theorem dX6_movedByRatios_8 : decode cX6_movedByRatios 8 = .ok (.iload_n 1, 1) := by decide +kernel
theorem dX6_movedByRatios_9 : decode cX6_movedByRatios 9 = .ok (.if_icmp .gt 40, 3) := by decide +kernel
theorem dX6_movedByRatios_12 : decode cX6_movedByRatios 12 = .ok (.iload 6, 2) := by decide +kernel
theorem dX6_movedByRatios_14 : decode cX6_movedByRatios 14 = .ok (.aload_n 0, 1) := by decide +kernel
theorem dX6_movedByRatios_15 : decode cX6_movedByRatios 15 = .ok (.getfield 10, 3) := by decide +kernel
theorem dX6_movedByRatios_18 : decode cX6_movedByRatios 18 = .ok (.invokevirtual 25, 3) := by decide +kernel
theorem dX6_movedByRatios_21 : decode cX6_movedByRatios 21 = .ok (.if_icmp .ge 28, 3) := by decide +kernel
theorem dX6_movedByRatios_24 : decode cX6_movedByRatios 24 = .ok (.aload_n 0, 1) := by decide +kernel
theorem dX6_movedByRatios_25 : decode cX6_movedByRatios 25 = .ok (.getfield 10, 3) := by decide +kernel
theorem dX6_movedByRatios_28 : decode cX6_movedByRatios 28 = .ok (.iload 6, 2) := by decide +kernel
theorem dX6_movedByRatios_30 : decode cX6_movedByRatios 30 = .ok (.invokevirtual 37, 3) := by decide +kernel
theorem dX6_movedByRatios_33 : decode cX6_movedByRatios 33 = .ok (.checkcast 16, 3) := by decide +kernel
theorem dX6_movedByRatios_36 : decode cX6_movedByRatios 36 = .ok (.lload 4, 2) := by decide +kernel
theorem dX6_movedByRatios_38 : decode cX6_movedByRatios 38 = .ok (.invokevirtual 41, 3) := by decide +kernel
theorem dX6_movedByRatios_41 : decode cX6_movedByRatios 41 = .ok (.lstore 4, 2) := by decide +kernel
theorem dX6_movedByRatios_43 : decode cX6_movedByRatios 43 = .ok (.iinc 6 1, 3) := by decide +kernel
theorem dX6_movedByRatios_46 : decode cX6_movedByRatios 46 = .ok (.goto (-40), 3) := by decide +kernel
theorem dX6_movedByRatios_49 : decode cX6_movedByRatios 49 = .ok (.lload 4, 2) := by decide +kernel
theorem dX6_movedByRatios_51 : decode cX6_movedByRatios 51 = .ok (.lreturn, 1) := by decide +kernel
theorem dX6_turnsByRatios_0 : decode cX6_turnsByRatios 0 = .ok (.aload_n 0, 1) := by decide +kernel
theorem dX6_turnsByRatios_1 : decode cX6_turnsByRatios 1 = .ok (.iload_n 1, 1) := by decide +kernel
theorem dX6_turnsByRatios_2 : decode cX6_turnsByRatios 2 = .ok (.lload_n 2, 1) := by decide +kernel
theorem dX6_turnsByRatios_3 : decode cX6_turnsByRatios 3 = .ok (.invokevirtual 33, 3) := by decide +kernel
theorem dX6_turnsByRatios_6 : decode cX6_turnsByRatios 6 = .ok (.aload_n 0, 1) := by decide +kernel
theorem dX6_turnsByRatios_7 : decode cX6_turnsByRatios 7 = .ok (.iload_n 1, 1) := by decide +kernel
theorem dX6_turnsByRatios_8 : decode cX6_turnsByRatios 8 = .ok (.invokevirtual 29, 3) := by decide +kernel
theorem dX6_turnsByRatios_11 : decode cX6_turnsByRatios 11 = .ok (.i2l, 1) := by decide +kernel
theorem dX6_turnsByRatios_12 : decode cX6_turnsByRatios 12 = .ok (.invokestatic 45, 3) := by decide +kernel
theorem dX6_turnsByRatios_15 : decode cX6_turnsByRatios 15 = .ok (.lreturn, 1) := by decide +kernel
theorem dX6_beatsOfTurn_0 : decode cX6_beatsOfTurn 0 = .ok (.dconst 1, 1) := by decide +kernel
theorem dX6_beatsOfTurn_1 : decode cX6_beatsOfTurn 1 = .ok (.dstore_n 2, 1) := by decide +kernel
theorem dX6_beatsOfTurn_2 : decode cX6_beatsOfTurn 2 = .ok (.iconst 0, 1) := by decide +kernel
theorem dX6_beatsOfTurn_3 : decode cX6_beatsOfTurn 3 = .ok (.istore 4, 2) := by decide +kernel
theorem dX6_beatsOfTurn_5 : decode cX6_beatsOfTurn 5 = .ok (.iload 4, 2) := by decide +kernel
theorem dX6_beatsOfTurn_7 : decode cX6_beatsOfTurn 7 = .ok (.iload_n 1, 1) := by decide +kernel
theorem dX6_beatsOfTurn_8 : decode cX6_beatsOfTurn 8 = .ok (.if_icmp .gt 57, 3) := by decide +kernel
theorem dX6_beatsOfTurn_11 : decode cX6_beatsOfTurn 11 = .ok (.iload 4, 2) := by decide +kernel
theorem dX6_beatsOfTurn_13 : decode cX6_beatsOfTurn 13 = .ok (.aload_n 0, 1) := by decide +kernel
theorem dX6_beatsOfTurn_14 : decode cX6_beatsOfTurn 14 = .ok (.getfield 10, 3) := by decide +kernel
theorem dX6_beatsOfTurn_17 : decode cX6_beatsOfTurn 17 = .ok (.invokevirtual 25, 3) := by decide +kernel
theorem dX6_beatsOfTurn_20 : decode cX6_beatsOfTurn 20 = .ok (.if_icmp .ge 45, 3) := by decide +kernel
theorem dX6_beatsOfTurn_23 : decode cX6_beatsOfTurn 23 = .ok (.dload_n 2, 1) := by decide +kernel
theorem dX6_beatsOfTurn_24 : decode cX6_beatsOfTurn 24 = .ok (.aload_n 0, 1) := by decide +kernel
theorem dX6_beatsOfTurn_25 : decode cX6_beatsOfTurn 25 = .ok (.getfield 10, 3) := by decide +kernel
theorem dX6_beatsOfTurn_28 : decode cX6_beatsOfTurn 28 = .ok (.iload 4, 2) := by decide +kernel
theorem dX6_beatsOfTurn_30 : decode cX6_beatsOfTurn 30 = .ok (.invokevirtual 37, 3) := by decide +kernel
theorem dX6_beatsOfTurn_33 : decode cX6_beatsOfTurn 33 = .ok (.checkcast 16, 3) := by decide +kernel
theorem dX6_beatsOfTurn_36 : decode cX6_beatsOfTurn 36 = .ok (.invokevirtual 51, 3) := by decide +kernel
theorem dX6_beatsOfTurn_39 : decode cX6_beatsOfTurn 39 = .ok (.i2d, 1) := by decide +kernel
theorem dX6_beatsOfTurn_40 : decode cX6_beatsOfTurn 40 = .ok (.dmul, 1) := by decide +kernel
theorem dX6_beatsOfTurn_41 : decode cX6_beatsOfTurn 41 = .ok (.aload_n 0, 1) := by decide +kernel
theorem dX6_beatsOfTurn_42 : decode cX6_beatsOfTurn 42 = .ok (.getfield 10, 3) := by decide +kernel
theorem dX6_beatsOfTurn_45 : decode cX6_beatsOfTurn 45 = .ok (.iload 4, 2) := by decide +kernel
theorem dX6_beatsOfTurn_47 : decode cX6_beatsOfTurn 47 = .ok (.invokevirtual 37, 3) := by decide +kernel
theorem dX6_beatsOfTurn_50 : decode cX6_beatsOfTurn 50 = .ok (.checkcast 16, 3) := by decide +kernel
theorem dX6_beatsOfTurn_53 : decode cX6_beatsOfTurn 53 = .ok (.invokevirtual 54, 3) := by decide +kernel
theorem dX6_beatsOfTurn_56 : decode cX6_beatsOfTurn 56 = .ok (.i2d, 1) := by decide +kernel
theorem dX6_beatsOfTurn_57 : decode cX6_beatsOfTurn 57 = .ok (.ddiv, 1) := by decide +kernel
theorem dX6_beatsOfTurn_58 : decode cX6_beatsOfTurn 58 = .ok (.dstore_n 2, 1) := by decide +kernel
theorem dX6_beatsOfTurn_59 : decode cX6_beatsOfTurn 59 = .ok (.iinc 4 1, 3) := by decide +kernel
theorem dX6_beatsOfTurn_62 : decode cX6_beatsOfTurn 62 = .ok (.goto (-57), 3) := by decide +kernel
theorem dX6_beatsOfTurn_65 : decode cX6_beatsOfTurn 65 = .ok (.dload_n 2, 1) := by decide +kernel
theorem dX6_beatsOfTurn_66 : decode cX6_beatsOfTurn 66 = .ok (.dreturn, 1) := by decide +kernel
theorem dX6_movedByWalking_0 : decode cX6_movedByWalking 0 = .ok (.aload_n 0, 1) := by decide +kernel
theorem dX6_movedByWalking_1 : decode cX6_movedByWalking 1 = .ok (.iload_n 1, 1) := by decide +kernel
theorem dX6_movedByWalking_2 : decode cX6_movedByWalking 2 = .ok (.lload_n 2, 1) := by decide +kernel
theorem dX6_movedByWalking_3 : decode cX6_movedByWalking 3 = .ok (.invokevirtual 57, 3) := by decide +kernel
theorem dX6_movedByWalking_6 : decode cX6_movedByWalking 6 = .ok (.lstore 5, 2) := by decide +kernel
theorem dX6_movedByWalking_8 : decode cX6_movedByWalking 8 = .ok (.iconst 0, 1) := by decide +kernel
theorem dX6_movedByWalking_9 : decode cX6_movedByWalking 9 = .ok (.istore 7, 2) := by decide +kernel
theorem dX6_movedByWalking_11 : decode cX6_movedByWalking 11 = .ok (.iload 7, 2) := by decide +kernel
theorem dX6_movedByWalking_13 : decode cX6_movedByWalking 13 = .ok (.iload 4, 2) := by decide +kernel
theorem dX6_movedByWalking_15 : decode cX6_movedByWalking 15 = .ok (.if_icmp .ge 19, 3) := by decide +kernel
theorem dX6_movedByWalking_18 : decode cX6_movedByWalking 18 = .ok (.lload 5, 2) := by decide +kernel
theorem dX6_movedByWalking_20 : decode cX6_movedByWalking 20 = .ok (.aload_n 0, 1) := by decide +kernel
theorem dX6_movedByWalking_21 : decode cX6_movedByWalking 21 = .ok (.iload_n 1, 1) := by decide +kernel
theorem dX6_movedByWalking_22 : decode cX6_movedByWalking 22 = .ok (.invokevirtual 60, 3) := by decide +kernel
theorem dX6_movedByWalking_25 : decode cX6_movedByWalking 25 = .ok (.ladd, 1) := by decide +kernel
theorem dX6_movedByWalking_26 : decode cX6_movedByWalking 26 = .ok (.lstore 5, 2) := by decide +kernel
theorem dX6_movedByWalking_28 : decode cX6_movedByWalking 28 = .ok (.iinc 7 1, 3) := by decide +kernel
theorem dX6_movedByWalking_31 : decode cX6_movedByWalking 31 = .ok (.goto (-20), 3) := by decide +kernel
theorem dX6_movedByWalking_34 : decode cX6_movedByWalking 34 = .ok (.lload 5, 2) := by decide +kernel
theorem dX6_movedByWalking_36 : decode cX6_movedByWalking 36 = .ok (.lreturn, 1) := by decide +kernel
theorem dX6_startWalk_0 : decode cX6_startWalk 0 = .ok (.lload_n 2, 1) := by decide +kernel
theorem dX6_startWalk_1 : decode cX6_startWalk 1 = .ok (.lstore 4, 2) := by decide +kernel
theorem dX6_startWalk_3 : decode cX6_startWalk 3 = .ok (.iconst 0, 1) := by decide +kernel
theorem dX6_startWalk_4 : decode cX6_startWalk 4 = .ok (.istore 6, 2) := by decide +kernel
theorem dX6_startWalk_6 : decode cX6_startWalk 6 = .ok (.iload 6, 2) := by decide +kernel
theorem dX6_startWalk_8 : decode cX6_startWalk 8 = .ok (.iload_n 1, 1) := by decide +kernel
theorem dX6_startWalk_9 : decode cX6_startWalk 9 = .ok (.if_icmp .gt 57, 3) := by decide +kernel
theorem dX6_startWalk_12 : decode cX6_startWalk 12 = .ok (.iload 6, 2) := by decide +kernel
theorem dX6_startWalk_14 : decode cX6_startWalk 14 = .ok (.aload_n 0, 1) := by decide +kernel
theorem dX6_startWalk_15 : decode cX6_startWalk 15 = .ok (.getfield 10, 3) := by decide +kernel
theorem dX6_startWalk_18 : decode cX6_startWalk 18 = .ok (.invokevirtual 25, 3) := by decide +kernel
theorem dX6_startWalk_21 : decode cX6_startWalk 21 = .ok (.if_icmp .ge 45, 3) := by decide +kernel
theorem dX6_startWalk_24 : decode cX6_startWalk 24 = .ok (.aload_n 0, 1) := by decide +kernel
theorem dX6_startWalk_25 : decode cX6_startWalk 25 = .ok (.getfield 10, 3) := by decide +kernel
theorem dX6_startWalk_28 : decode cX6_startWalk 28 = .ok (.iload 6, 2) := by decide +kernel
theorem dX6_startWalk_30 : decode cX6_startWalk 30 = .ok (.invokevirtual 37, 3) := by decide +kernel
theorem dX6_startWalk_33 : decode cX6_startWalk 33 = .ok (.checkcast 16, 3) := by decide +kernel
theorem dX6_startWalk_36 : decode cX6_startWalk 36 = .ok (.lload 4, 2) := by decide +kernel
theorem dX6_startWalk_38 : decode cX6_startWalk 38 = .ok (.invokevirtual 64, 3) := by decide +kernel
theorem dX6_startWalk_41 : decode cX6_startWalk 41 = .ok (.aload_n 0, 1) := by decide +kernel
theorem dX6_startWalk_42 : decode cX6_startWalk 42 = .ok (.getfield 10, 3) := by decide +kernel
theorem dX6_startWalk_45 : decode cX6_startWalk 45 = .ok (.iload 6, 2) := by decide +kernel
theorem dX6_startWalk_47 : decode cX6_startWalk 47 = .ok (.invokevirtual 37, 3) := by decide +kernel
theorem dX6_startWalk_50 : decode cX6_startWalk 50 = .ok (.checkcast 16, 3) := by decide +kernel
theorem dX6_startWalk_53 : decode cX6_startWalk 53 = .ok (.lload 4, 2) := by decide +kernel
theorem dX6_startWalk_55 : decode cX6_startWalk 55 = .ok (.invokevirtual 41, 3) := by decide +kernel
theorem dX6_startWalk_58 : decode cX6_startWalk 58 = .ok (.lstore 4, 2) := by decide +kernel
theorem dX6_startWalk_60 : decode cX6_startWalk 60 = .ok (.iinc 6 1, 3) := by decide +kernel
theorem dX6_startWalk_63 : decode cX6_startWalk 63 = .ok (.goto (-57), 3) := by decide +kernel
theorem dX6_startWalk_66 : decode cX6_startWalk 66 = .ok (.lload 4, 2) := by decide +kernel
theorem dX6_startWalk_68 : decode cX6_startWalk 68 = .ok (.lreturn, 1) := by decide +kernel
theorem dX6_walkOneBeat_0 : decode cX6_walkOneBeat 0 = .ok (.lconst 1, 1) := by decide +kernel
theorem dX6_walkOneBeat_1 : decode cX6_walkOneBeat 1 = .ok (.lstore_n 2, 1) := by decide +kernel
theorem dX6_walkOneBeat_2 : decode cX6_walkOneBeat 2 = .ok (.iconst 0, 1) := by decide +kernel
theorem dX6_walkOneBeat_3 : decode cX6_walkOneBeat 3 = .ok (.istore 4, 2) := by decide +kernel
theorem dX6_walkOneBeat_5 : decode cX6_walkOneBeat 5 = .ok (.iload 4, 2) := by decide +kernel
theorem dX6_walkOneBeat_7 : decode cX6_walkOneBeat 7 = .ok (.iload_n 1, 1) := by decide +kernel
theorem dX6_walkOneBeat_8 : decode cX6_walkOneBeat 8 = .ok (.if_icmp .gt 38, 3) := by decide +kernel
theorem dX6_walkOneBeat_11 : decode cX6_walkOneBeat 11 = .ok (.iload 4, 2) := by decide +kernel
theorem dX6_walkOneBeat_13 : decode cX6_walkOneBeat 13 = .ok (.aload_n 0, 1) := by decide +kernel
theorem dX6_walkOneBeat_14 : decode cX6_walkOneBeat 14 = .ok (.getfield 10, 3) := by decide +kernel
theorem dX6_walkOneBeat_17 : decode cX6_walkOneBeat 17 = .ok (.invokevirtual 25, 3) := by decide +kernel
theorem dX6_walkOneBeat_20 : decode cX6_walkOneBeat 20 = .ok (.if_icmp .ge 26, 3) := by decide +kernel
theorem dX6_walkOneBeat_23 : decode cX6_walkOneBeat 23 = .ok (.aload_n 0, 1) := by decide +kernel
theorem dX6_walkOneBeat_24 : decode cX6_walkOneBeat 24 = .ok (.getfield 10, 3) := by decide +kernel
theorem dX6_walkOneBeat_27 : decode cX6_walkOneBeat 27 = .ok (.iload 4, 2) := by decide +kernel
theorem dX6_walkOneBeat_29 : decode cX6_walkOneBeat 29 = .ok (.invokevirtual 37, 3) := by decide +kernel
theorem dX6_walkOneBeat_32 : decode cX6_walkOneBeat 32 = .ok (.checkcast 16, 3) := by decide +kernel
theorem dX6_walkOneBeat_35 : decode cX6_walkOneBeat 35 = .ok (.lload_n 2, 1) := by decide +kernel
theorem dX6_walkOneBeat_36 : decode cX6_walkOneBeat 36 = .ok (.invokevirtual 67, 3) := by decide +kernel
theorem dX6_walkOneBeat_39 : decode cX6_walkOneBeat 39 = .ok (.lstore_n 2, 1) := by decide +kernel
theorem dX6_walkOneBeat_40 : decode cX6_walkOneBeat 40 = .ok (.iinc 4 1, 3) := by decide +kernel
theorem dX6_walkOneBeat_43 : decode cX6_walkOneBeat 43 = .ok (.goto (-38), 3) := by decide +kernel
theorem dX6_walkOneBeat_46 : decode cX6_walkOneBeat 46 = .ok (.lload_n 2, 1) := by decide +kernel
theorem dX6_walkOneBeat_47 : decode cX6_walkOneBeat 47 = .ok (.lreturn, 1) := by decide +kernel
theorem dX6_teethOf_0 : decode cX6_teethOf 0 = .ok (.iload_n 1, 1) := by decide +kernel
theorem dX6_teethOf_1 : decode cX6_teethOf 1 = .ok (.ifCond .lt 31, 3) := by decide +kernel
theorem dX6_teethOf_4 : decode cX6_teethOf 4 = .ok (.iload_n 1, 1) := by decide +kernel
theorem dX6_teethOf_5 : decode cX6_teethOf 5 = .ok (.aload_n 0, 1) := by decide +kernel
theorem dX6_teethOf_6 : decode cX6_teethOf 6 = .ok (.getfield 10, 3) := by decide +kernel
theorem dX6_teethOf_9 : decode cX6_teethOf 9 = .ok (.invokevirtual 25, 3) := by decide +kernel
theorem dX6_teethOf_12 : decode cX6_teethOf 12 = .ok (.if_icmp .ge 20, 3) := by decide +kernel
theorem dX6_teethOf_15 : decode cX6_teethOf 15 = .ok (.aload_n 0, 1) := by decide +kernel
theorem dX6_teethOf_16 : decode cX6_teethOf 16 = .ok (.getfield 10, 3) := by decide +kernel
theorem dX6_teethOf_19 : decode cX6_teethOf 19 = .ok (.iload_n 1, 1) := by decide +kernel
theorem dX6_teethOf_20 : decode cX6_teethOf 20 = .ok (.invokevirtual 37, 3) := by decide +kernel
theorem dX6_teethOf_23 : decode cX6_teethOf 23 = .ok (.checkcast 16, 3) := by decide +kernel
theorem dX6_teethOf_26 : decode cX6_teethOf 26 = .ok (.invokevirtual 51, 3) := by decide +kernel
theorem dX6_teethOf_29 : decode cX6_teethOf 29 = .ok (.goto 4, 3) := by decide +kernel
theorem dX6_teethOf_32 : decode cX6_teethOf 32 = .ok (.iconst 0, 1) := by decide +kernel
theorem dX6_teethOf_33 : decode cX6_teethOf 33 = .ok (.ireturn, 1) := by decide +kernel
theorem dX7_init_0 : decode cX7_init 0 = .ok (.aload_n 0, 1) := by decide +kernel
theorem dX7_init_1 : decode cX7_init 1 = .ok (.invokespecial 1, 3) := by decide +kernel
theorem dX7_init_4 : decode cX7_init 4 = .ok (.aload_n 0, 1) := by decide +kernel
theorem dX7_init_5 : decode cX7_init 5 = .ok (.iload_n 1, 1) := by decide +kernel
theorem dX7_init_6 : decode cX7_init 6 = .ok (.putfield 7, 3) := by decide +kernel
theorem dX7_init_9 : decode cX7_init 9 = .ok (.aload_n 0, 1) := by decide +kernel
theorem dX7_init_10 : decode cX7_init 10 = .ok (.iload_n 2, 1) := by decide +kernel
theorem dX7_init_11 : decode cX7_init 11 = .ok (.putfield 13, 3) := by decide +kernel
theorem dX7_init_14 : decode cX7_init 14 = .ok (.aload_n 0, 1) := by decide +kernel
theorem dX7_init_15 : decode cX7_init 15 = .ok (.iload_n 3, 1) := by decide +kernel
theorem dX7_init_16 : decode cX7_init 16 = .ok (.putfield 16, 3) := by decide +kernel
theorem dX7_init_19 : decode cX7_init 19 = .ok (.aload_n 0, 1) := by decide +kernel
theorem dX7_init_20 : decode cX7_init 20 = .ok (.lload 4, 2) := by decide +kernel
theorem dX7_init_22 : decode cX7_init 22 = .ok (.putfield 19, 3) := by decide +kernel
theorem dX7_init_25 : decode cX7_init 25 = .ok (.return_, 1) := by decide +kernel
theorem dX7_toothCount_0 : decode cX7_toothCount 0 = .ok (.aload_n 0, 1) := by decide +kernel
theorem dX7_toothCount_1 : decode cX7_toothCount 1 = .ok (.getfield 7, 3) := by decide +kernel
theorem dX7_toothCount_4 : decode cX7_toothCount 4 = .ok (.ireturn, 1) := by decide +kernel
theorem dX7_leafCount_0 : decode cX7_leafCount 0 = .ok (.aload_n 0, 1) := by decide +kernel
theorem dX7_leafCount_1 : decode cX7_leafCount 1 = .ok (.getfield 13, 3) := by decide +kernel
theorem dX7_leafCount_4 : decode cX7_leafCount 4 = .ok (.ireturn, 1) := by decide +kernel
theorem dX7_movedWhen_0 : decode cX7_movedWhen 0 = .ok (.lload_n 1, 1) := by decide +kernel
theorem dX7_movedWhen_1 : decode cX7_movedWhen 1 = .ok (.aload_n 0, 1) := by decide +kernel
theorem dX7_movedWhen_2 : decode cX7_movedWhen 2 = .ok (.getfield 19, 3) := by decide +kernel
theorem dX7_movedWhen_5 : decode cX7_movedWhen 5 = .ok (.lsub, 1) := by decide +kernel
theorem dX7_movedWhen_6 : decode cX7_movedWhen 6 = .ok (.aload_n 0, 1) := by decide +kernel
theorem dX7_movedWhen_7 : decode cX7_movedWhen 7 = .ok (.getfield 13, 3) := by decide +kernel
theorem dX7_movedWhen_10 : decode cX7_movedWhen 10 = .ok (.i2l, 1) := by decide +kernel
theorem dX7_movedWhen_11 : decode cX7_movedWhen 11 = .ok (.lmul, 1) := by decide +kernel
theorem dX7_movedWhen_12 : decode cX7_movedWhen 12 = .ok (.aload_n 0, 1) := by decide +kernel
theorem dX7_movedWhen_13 : decode cX7_movedWhen 13 = .ok (.getfield 16, 3) := by decide +kernel
theorem dX7_movedWhen_16 : decode cX7_movedWhen 16 = .ok (.i2l, 1) := by decide +kernel
theorem dX7_movedWhen_17 : decode cX7_movedWhen 17 = .ok (.invokestatic 23, 3) := by decide +kernel
theorem dX7_movedWhen_20 : decode cX7_movedWhen 20 = .ok (.lreturn, 1) := by decide +kernel
theorem dX7_startWalk_0 : decode cX7_startWalk 0 = .ok (.aload_n 0, 1) := by decide +kernel
theorem dX7_startWalk_1 : decode cX7_startWalk 1 = .ok (.lload_n 1, 1) := by decide +kernel
theorem dX7_startWalk_2 : decode cX7_startWalk 2 = .ok (.aload_n 0, 1) := by decide +kernel
theorem dX7_startWalk_3 : decode cX7_startWalk 3 = .ok (.getfield 19, 3) := by decide +kernel
theorem dX7_startWalk_6 : decode cX7_startWalk 6 = .ok (.lsub, 1) := by decide +kernel
theorem dX7_startWalk_7 : decode cX7_startWalk 7 = .ok (.aload_n 0, 1) := by decide +kernel
theorem dX7_startWalk_8 : decode cX7_startWalk 8 = .ok (.getfield 13, 3) := by decide +kernel
theorem dX7_startWalk_11 : decode cX7_startWalk 11 = .ok (.i2l, 1) := by decide +kernel
theorem dX7_startWalk_12 : decode cX7_startWalk 12 = .ok (.lmul, 1) := by decide +kernel
theorem dX7_startWalk_13 : decode cX7_startWalk 13 = .ok (.aload_n 0, 1) := by decide +kernel
theorem dX7_startWalk_14 : decode cX7_startWalk 14 = .ok (.lload_n 1, 1) := by decide +kernel
theorem dX7_startWalk_15 : decode cX7_startWalk 15 = .ok (.invokevirtual 29, 3) := by decide +kernel
theorem dX7_startWalk_18 : decode cX7_startWalk 18 = .ok (.aload_n 0, 1) := by decide +kernel
theorem dX7_startWalk_19 : decode cX7_startWalk 19 = .ok (.getfield 16, 3) := by decide +kernel
theorem dX7_startWalk_22 : decode cX7_startWalk 22 = .ok (.i2l, 1) := by decide +kernel
theorem dX7_startWalk_23 : decode cX7_startWalk 23 = .ok (.lmul, 1) := by decide +kernel
theorem dX7_startWalk_24 : decode cX7_startWalk 24 = .ok (.lsub, 1) := by decide +kernel
theorem dX7_startWalk_25 : decode cX7_startWalk 25 = .ok (.putfield 33, 3) := by decide +kernel
theorem dX7_startWalk_28 : decode cX7_startWalk 28 = .ok (.return_, 1) := by decide +kernel
theorem dX7_walk_0 : decode cX7_walk 0 = .ok (.aload_n 0, 1) := by decide +kernel
theorem dX7_walk_1 : decode cX7_walk 1 = .ok (.dup, 1) := by decide +kernel
theorem dX7_walk_2 : decode cX7_walk 2 = .ok (.getfield 33, 3) := by decide +kernel
theorem dX7_walk_5 : decode cX7_walk 5 = .ok (.lload_n 1, 1) := by decide +kernel
theorem dX7_walk_6 : decode cX7_walk 6 = .ok (.aload_n 0, 1) := by decide +kernel
theorem dX7_walk_7 : decode cX7_walk 7 = .ok (.getfield 13, 3) := by decide +kernel
theorem dX7_walk_10 : decode cX7_walk 10 = .ok (.i2l, 1) := by decide +kernel
theorem dX7_walk_11 : decode cX7_walk 11 = .ok (.lmul, 1) := by decide +kernel
theorem dX7_walk_12 : decode cX7_walk 12 = .ok (.ladd, 1) := by decide +kernel
theorem dX7_walk_13 : decode cX7_walk 13 = .ok (.putfield 33, 3) := by decide +kernel
theorem dX7_walk_16 : decode cX7_walk 16 = .ok (.aload_n 0, 1) := by decide +kernel
theorem dX7_walk_17 : decode cX7_walk 17 = .ok (.getfield 33, 3) := by decide +kernel
theorem dX7_walk_20 : decode cX7_walk 20 = .ok (.aload_n 0, 1) := by decide +kernel
theorem dX7_walk_21 : decode cX7_walk 21 = .ok (.getfield 16, 3) := by decide +kernel
theorem dX7_walk_24 : decode cX7_walk 24 = .ok (.i2l, 1) := by decide +kernel
theorem dX7_walk_25 : decode cX7_walk 25 = .ok (.invokestatic 23, 3) := by decide +kernel
theorem dX7_walk_28 : decode cX7_walk 28 = .ok (.lstore_n 3, 1) := by decide +kernel
theorem dX7_walk_29 : decode cX7_walk 29 = .ok (.aload_n 0, 1) := by decide +kernel
theorem dX7_walk_30 : decode cX7_walk 30 = .ok (.dup, 1) := by decide +kernel
theorem dX7_walk_31 : decode cX7_walk 31 = .ok (.getfield 33, 3) := by decide +kernel
theorem dX7_walk_34 : decode cX7_walk 34 = .ok (.lload_n 3, 1) := by decide +kernel
theorem dX7_walk_35 : decode cX7_walk 35 = .ok (.aload_n 0, 1) := by decide +kernel
theorem dX7_walk_36 : decode cX7_walk 36 = .ok (.getfield 16, 3) := by decide +kernel
theorem dX7_walk_39 : decode cX7_walk 39 = .ok (.i2l, 1) := by decide +kernel
theorem dX7_walk_40 : decode cX7_walk 40 = .ok (.lmul, 1) := by decide +kernel
theorem dX7_walk_41 : decode cX7_walk 41 = .ok (.lsub, 1) := by decide +kernel
theorem dX7_walk_42 : decode cX7_walk 42 = .ok (.putfield 33, 3) := by decide +kernel
theorem dX7_walk_45 : decode cX7_walk 45 = .ok (.lload_n 3, 1) := by decide +kernel
theorem dX7_walk_46 : decode cX7_walk 46 = .ok (.lreturn, 1) := by decide +kernel
theorem dX8_init_0 : decode cX8_init 0 = .ok (.aload_n 0, 1) := by decide +kernel
theorem dX8_init_1 : decode cX8_init 1 = .ok (.invokespecial 1, 3) := by decide +kernel
theorem dX8_init_4 : decode cX8_init 4 = .ok (.aload_n 0, 1) := by decide +kernel
theorem dX8_init_5 : decode cX8_init 5 = .ok (.new 7, 3) := by decide +kernel
theorem dX8_init_8 : decode cX8_init 8 = .ok (.dup, 1) := by decide +kernel
theorem dX8_init_9 : decode cX8_init 9 = .ok (.invokespecial 9, 3) := by decide +kernel
theorem dX8_init_12 : decode cX8_init 12 = .ok (.putfield 10, 3) := by decide +kernel
theorem dX8_init_15 : decode cX8_init 15 = .ok (.aload_n 0, 1) := by decide +kernel
theorem dX8_init_16 : decode cX8_init 16 = .ok (.new 16, 3) := by decide +kernel
theorem dX8_init_19 : decode cX8_init 19 = .ok (.dup, 1) := by decide +kernel
theorem dX8_init_20 : decode cX8_init 20 = .ok (.invokespecial 18, 3) := by decide +kernel
theorem dX8_init_23 : decode cX8_init 23 = .ok (.putfield 19, 3) := by decide +kernel
theorem dX8_init_26 : decode cX8_init 26 = .ok (.aload_n 0, 1) := by decide +kernel
theorem dX8_init_27 : decode cX8_init 27 = .ok (.new 23, 3) := by decide +kernel
theorem dX8_init_30 : decode cX8_init 30 = .ok (.dup, 1) := by decide +kernel
theorem dX8_init_31 : decode cX8_init 31 = .ok (.invokespecial 25, 3) := by decide +kernel
theorem dX8_init_34 : decode cX8_init 34 = .ok (.putfield 26, 3) := by decide +kernel
theorem dX8_init_37 : decode cX8_init 37 = .ok (.aload_n 0, 1) := by decide +kernel
theorem dX8_init_38 : decode cX8_init 38 = .ok (.new 30, 3) := by decide +kernel
theorem dX8_init_41 : decode cX8_init 41 = .ok (.dup, 1) := by decide +kernel
theorem dX8_init_42 : decode cX8_init 42 = .ok (.invokespecial 32, 3) := by decide +kernel
theorem dX8_init_45 : decode cX8_init 45 = .ok (.putfield 33, 3) := by decide +kernel
theorem dX8_init_48 : decode cX8_init 48 = .ok (.aload_n 0, 1) := by decide +kernel
theorem dX8_init_49 : decode cX8_init 49 = .ok (.new 37, 3) := by decide +kernel
theorem dX8_init_52 : decode cX8_init 52 = .ok (.dup, 1) := by decide +kernel
theorem dX8_init_53 : decode cX8_init 53 = .ok (.invokespecial 39, 3) := by decide +kernel
theorem dX8_init_56 : decode cX8_init 56 = .ok (.putfield 40, 3) := by decide +kernel
theorem dX8_init_59 : decode cX8_init 59 = .ok (.aload_n 0, 1) := by decide +kernel
theorem dX8_init_60 : decode cX8_init 60 = .ok (.new 16, 3) := by decide +kernel
theorem dX8_init_63 : decode cX8_init 63 = .ok (.dup, 1) := by decide +kernel
theorem dX8_init_64 : decode cX8_init 64 = .ok (.invokespecial 18, 3) := by decide +kernel
theorem dX8_init_67 : decode cX8_init 67 = .ok (.putfield 44, 3) := by decide +kernel
theorem dX8_init_70 : decode cX8_init 70 = .ok (.aload_n 0, 1) := by decide +kernel
theorem dX8_init_71 : decode cX8_init 71 = .ok (.new 23, 3) := by decide +kernel
theorem dX8_init_74 : decode cX8_init 74 = .ok (.dup, 1) := by decide +kernel
theorem dX8_init_75 : decode cX8_init 75 = .ok (.invokespecial 25, 3) := by decide +kernel
theorem dX8_init_78 : decode cX8_init 78 = .ok (.putfield 47, 3) := by decide +kernel
theorem dX8_init_81 : decode cX8_init 81 = .ok (.aload_n 0, 1) := by decide +kernel
theorem dX8_init_82 : decode cX8_init 82 = .ok (.lconst 0, 1) := by decide +kernel
theorem dX8_init_83 : decode cX8_init 83 = .ok (.putfield 50, 3) := by decide +kernel
theorem dX8_init_86 : decode cX8_init 86 = .ok (.aload_n 0, 1) := by decide +kernel
theorem dX8_init_87 : decode cX8_init 87 = .ok (.sipush 2000, 3) := by decide +kernel
theorem dX8_init_90 : decode cX8_init 90 = .ok (.iconst 1, 1) := by decide +kernel
theorem dX8_init_91 : decode cX8_init 91 = .ok (.iconst 1, 1) := by decide +kernel
theorem dX8_init_92 : decode cX8_init 92 = .ok (.invokestatic 54, 3) := by decide +kernel
theorem dX8_init_95 : decode cX8_init 95 = .ok (.putfield 60, 3) := by decide +kernel
theorem dX8_init_98 : decode cX8_init 98 = .ok (.return_, 1) := by decide +kernel
theorem dX8_addWheel_0 : decode cX8_addWheel 0 = .ok (.iload_n 1, 1) := by decide +kernel
theorem dX8_addWheel_1 : decode cX8_addWheel 1 = .ok (.bipush 6, 2) := by decide +kernel
theorem dX8_addWheel_3 : decode cX8_addWheel 3 = .ok (.bipush 120, 2) := by decide +kernel
theorem dX8_addWheel_5 : decode cX8_addWheel 5 = .ok (.invokestatic 63, 3) := by decide +kernel
theorem dX8_addWheel_8 : decode cX8_addWheel 8 = .ok (.ifCond .eq 14, 3) := by decide +kernel
theorem dX8_addWheel_11 : decode cX8_addWheel 11 = .ok (.iload_n 2, 1) := by decide +kernel
theorem dX8_addWheel_12 : decode cX8_addWheel 12 = .ok (.bipush 6, 2) := by decide +kernel
theorem dX8_addWheel_14 : decode cX8_addWheel 14 = .ok (.bipush 24, 2) := by decide +kernel
theorem dX8_addWheel_16 : decode cX8_addWheel 16 = .ok (.invokestatic 63, 3) := by decide +kernel
theorem dX8_addWheel_19 : decode cX8_addWheel 19 = .ok (.ifCond .ne 13, 3) := by decide +kernel
theorem dX8_addWheel_22 : decode cX8_addWheel 22 = .ok (.new 67, 3) := by decide +kernel
theorem dX8_addWheel_25 : decode cX8_addWheel 25 = .ok (.dup, 1) := by decide +kernel
theorem dX8_addWheel_26 : decode cX8_addWheel 26 = .ok (.ldc 69, 2) := by decide +kernel
theorem dX8_addWheel_28 : decode cX8_addWheel 28 = .ok (.invokespecial 71, 3) := by decide +kernel
theorem dX8_addWheel_31 : decode cX8_addWheel 31 = .ok (.athrow, 1) := by decide +kernel
theorem dX8_addWheel_32 : decode cX8_addWheel 32 = .ok (.aload_n 0, 1) := by decide +kernel
theorem dX8_addWheel_33 : decode cX8_addWheel 33 = .ok (.getfield 10, 3) := by decide +kernel
theorem dX8_addWheel_36 : decode cX8_addWheel 36 = .ok (.invokevirtual 74, 3) := by decide +kernel
theorem dX8_addWheel_39 : decode cX8_addWheel 39 = .ok (.bipush 6, 2) := by decide +kernel
theorem dX8_addWheel_41 : decode cX8_addWheel 41 = .ok (.if_icmp .lt 13, 3) := by decide +kernel
theorem dX8_addWheel_44 : decode cX8_addWheel 44 = .ok (.new 78, 3) := by decide +kernel
theorem dX8_addWheel_47 : decode cX8_addWheel 47 = .ok (.dup, 1) := by decide +kernel
theorem dX8_addWheel_48 : decode cX8_addWheel 48 = .ok (.ldc 80, 2) := by decide +kernel
theorem dX8_addWheel_50 : decode cX8_addWheel 50 = .ok (.invokespecial 82, 3) := by decide +kernel
theorem dX8_addWheel_53 : decode cX8_addWheel 53 = .ok (.athrow, 1) := by decide +kernel
theorem dX8_addWheel_54 : decode cX8_addWheel 54 = .ok (.aload_n 0, 1) := by decide +kernel
theorem dX8_addWheel_55 : decode cX8_addWheel 55 = .ok (.getfield 10, 3) := by decide +kernel
theorem dX8_addWheel_58 : decode cX8_addWheel 58 = .ok (.iload_n 1, 1) := by decide +kernel
theorem dX8_addWheel_59 : decode cX8_addWheel 59 = .ok (.iload_n 2, 1) := by decide +kernel
theorem dX8_addWheel_60 : decode cX8_addWheel 60 = .ok (.aload_n 0, 1) := by decide +kernel
theorem dX8_addWheel_61 : decode cX8_addWheel 61 = .ok (.getfield 50, 3) := by decide +kernel
theorem dX8_addWheel_64 : decode cX8_addWheel 64 = .ok (.invokevirtual 83, 3) := by decide +kernel
theorem dX8_addWheel_67 : decode cX8_addWheel 67 = .ok (.ireturn, 1) := by decide +kernel
theorem dX8_wheels_0 : decode cX8_wheels 0 = .ok (.aload_n 0, 1) := by decide +kernel
theorem dX8_wheels_1 : decode cX8_wheels 1 = .ok (.getfield 10, 3) := by decide +kernel
theorem dX8_wheels_4 : decode cX8_wheels 4 = .ok (.invokevirtual 74, 3) := by decide +kernel
theorem dX8_wheels_7 : decode cX8_wheels 7 = .ok (.ireturn, 1) := by decide +kernel
theorem dX8_moved_0 : decode cX8_moved 0 = .ok (.aload_n 0, 1) := by decide +kernel
theorem dX8_moved_1 : decode cX8_moved 1 = .ok (.iload_n 1, 1) := by decide +kernel
theorem dX8_moved_2 : decode cX8_moved 2 = .ok (.invokevirtual 87, 3) := by decide +kernel
theorem dX8_moved_5 : decode cX8_moved 5 = .ok (.aload_n 0, 1) := by decide +kernel
theorem dX8_moved_6 : decode cX8_moved 6 = .ok (.getfield 10, 3) := by decide +kernel
theorem dX8_moved_9 : decode cX8_moved 9 = .ok (.iload_n 1, 1) := by decide +kernel
theorem dX8_moved_10 : decode cX8_moved 10 = .ok (.aload_n 0, 1) := by decide +kernel
theorem dX8_moved_11 : decode cX8_moved 11 = .ok (.getfield 50, 3) := by decide +kernel
theorem dX8_moved_14 : decode cX8_moved 14 = .ok (.invokevirtual 91, 3) := by decide +kernel
theorem dX8_moved_17 : decode cX8_moved 17 = .ok (.l2i, 1) := by decide +kernel
theorem dX8_moved_18 : decode cX8_moved 18 = .ok (.ireturn, 1) := by decide +kernel
theorem dX8_wholeTurns_0 : decode cX8_wholeTurns 0 = .ok (.aload_n 0, 1) := by decide +kernel
theorem dX8_wholeTurns_1 : decode cX8_wholeTurns 1 = .ok (.iload_n 1, 1) := by decide +kernel
theorem dX8_wholeTurns_2 : decode cX8_wholeTurns 2 = .ok (.invokevirtual 87, 3) := by decide +kernel
theorem dX8_wholeTurns_5 : decode cX8_wholeTurns 5 = .ok (.aload_n 0, 1) := by decide +kernel
theorem dX8_wholeTurns_6 : decode cX8_wholeTurns 6 = .ok (.getfield 10, 3) := by decide +kernel
theorem dX8_wholeTurns_9 : decode cX8_wholeTurns 9 = .ok (.iload_n 1, 1) := by decide +kernel
theorem dX8_wholeTurns_10 : decode cX8_wholeTurns 10 = .ok (.aload_n 0, 1) := by decide +kernel
theorem dX8_wholeTurns_11 : decode cX8_wholeTurns 11 = .ok (.getfield 50, 3) := by decide +kernel
theorem dX8_wholeTurns_14 : decode cX8_wholeTurns 14 = .ok (.invokevirtual 95, 3) := by decide +kernel
theorem dX8_wholeTurns_17 : decode cX8_wholeTurns 17 = .ok (.l2i, 1) := by decide +kernel
theorem dX8_wholeTurns_18 : decode cX8_wholeTurns 18 = .ok (.ireturn, 1) := by decide +kernel
theorem dX8_beatsForTurn_0 : decode cX8_beatsForTurn 0 = .ok (.aload_n 0, 1) := by decide +kernel
theorem dX8_beatsForTurn_1 : decode cX8_beatsForTurn 1 = .ok (.iload_n 1, 1) := by decide +kernel
theorem dX8_beatsForTurn_2 : decode cX8_beatsForTurn 2 = .ok (.invokevirtual 87, 3) := by decide +kernel
theorem dX8_beatsForTurn_5 : decode cX8_beatsForTurn 5 = .ok (.aload_n 0, 1) := by decide +kernel
theorem dX8_beatsForTurn_6 : decode cX8_beatsForTurn 6 = .ok (.getfield 10, 3) := by decide +kernel
theorem dX8_beatsForTurn_9 : decode cX8_beatsForTurn 9 = .ok (.iload_n 1, 1) := by decide +kernel
theorem dX8_beatsForTurn_10 : decode cX8_beatsForTurn 10 = .ok (.invokevirtual 98, 3) := by decide +kernel
theorem dX8_beatsForTurn_13 : decode cX8_beatsForTurn 13 = .ok (.dreturn, 1) := by decide +kernel
theorem dX8_movedAhead_0 : decode cX8_movedAhead 0 = .ok (.aload_n 0, 1) := by decide +kernel
theorem dX8_movedAhead_1 : decode cX8_movedAhead 1 = .ok (.iload_n 1, 1) := by decide +kernel
theorem dX8_movedAhead_2 : decode cX8_movedAhead 2 = .ok (.invokevirtual 87, 3) := by decide +kernel
theorem dX8_movedAhead_5 : decode cX8_movedAhead 5 = .ok (.aload_n 0, 1) := by decide +kernel
theorem dX8_movedAhead_6 : decode cX8_movedAhead 6 = .ok (.iload_n 2, 1) := by decide +kernel
theorem dX8_movedAhead_7 : decode cX8_movedAhead 7 = .ok (.invokevirtual 102, 3) := by decide +kernel
theorem dX8_movedAhead_10 : decode cX8_movedAhead 10 = .ok (.aload_n 0, 1) := by decide +kernel
theorem dX8_movedAhead_11 : decode cX8_movedAhead 11 = .ok (.getfield 10, 3) := by decide +kernel
theorem dX8_movedAhead_14 : decode cX8_movedAhead 14 = .ok (.iload_n 1, 1) := by decide +kernel
theorem dX8_movedAhead_15 : decode cX8_movedAhead 15 = .ok (.aload_n 0, 1) := by decide +kernel
theorem dX8_movedAhead_16 : decode cX8_movedAhead 16 = .ok (.getfield 50, 3) := by decide +kernel
theorem dX8_movedAhead_19 : decode cX8_movedAhead 19 = .ok (.iload_n 2, 1) := by decide +kernel
theorem dX8_movedAhead_20 : decode cX8_movedAhead 20 = .ok (.i2l, 1) := by decide +kernel
theorem dX8_movedAhead_21 : decode cX8_movedAhead 21 = .ok (.ladd, 1) := by decide +kernel
theorem dX8_movedAhead_22 : decode cX8_movedAhead 22 = .ok (.invokevirtual 91, 3) := by decide +kernel
theorem dX8_movedAhead_25 : decode cX8_movedAhead 25 = .ok (.l2i, 1) := by decide +kernel
theorem dX8_movedAhead_26 : decode cX8_movedAhead 26 = .ok (.ireturn, 1) := by decide +kernel
theorem dX8_movedByBeats_0 : decode cX8_movedByBeats 0 = .ok (.aload_n 0, 1) := by decide +kernel
theorem dX8_movedByBeats_1 : decode cX8_movedByBeats 1 = .ok (.iload_n 1, 1) := by decide +kernel
theorem dX8_movedByBeats_2 : decode cX8_movedByBeats 2 = .ok (.invokevirtual 87, 3) := by decide +kernel
theorem dX8_movedByBeats_5 : decode cX8_movedByBeats 5 = .ok (.aload_n 0, 1) := by decide +kernel
theorem dX8_movedByBeats_6 : decode cX8_movedByBeats 6 = .ok (.iload_n 2, 1) := by decide +kernel
theorem dX8_movedByBeats_7 : decode cX8_movedByBeats 7 = .ok (.invokevirtual 102, 3) := by decide +kernel
theorem dX8_movedByBeats_10 : decode cX8_movedByBeats 10 = .ok (.aload_n 0, 1) := by decide +kernel
theorem dX8_movedByBeats_11 : decode cX8_movedByBeats 11 = .ok (.getfield 10, 3) := by decide +kernel
theorem dX8_movedByBeats_14 : decode cX8_movedByBeats 14 = .ok (.iload_n 1, 1) := by decide +kernel
theorem dX8_movedByBeats_15 : decode cX8_movedByBeats 15 = .ok (.aload_n 0, 1) := by decide +kernel
theorem dX8_movedByBeats_16 : decode cX8_movedByBeats 16 = .ok (.getfield 50, 3) := by decide +kernel
theorem dX8_movedByBeats_19 : decode cX8_movedByBeats 19 = .ok (.iload_n 2, 1) := by decide +kernel
theorem dX8_movedByBeats_20 : decode cX8_movedByBeats 20 = .ok (.invokevirtual 105, 3) := by decide +kernel
theorem dX8_movedByBeats_23 : decode cX8_movedByBeats 23 = .ok (.l2i, 1) := by decide +kernel
theorem dX8_movedByBeats_24 : decode cX8_movedByBeats 24 = .ok (.ireturn, 1) := by decide +kernel
theorem dX8_setBeat_0 : decode cX8_setBeat 0 = .ok (.iload_n 1, 1) := by decide +kernel
theorem dX8_setBeat_1 : decode cX8_setBeat 1 = .ok (.iconst 1, 1) := by decide +kernel
theorem dX8_setBeat_2 : decode cX8_setBeat 2 = .ok (.bipush 20, 2) := by decide +kernel
theorem dX8_setBeat_4 : decode cX8_setBeat 4 = .ok (.invokestatic 63, 3) := by decide +kernel
theorem dX8_setBeat_7 : decode cX8_setBeat 7 = .ok (.ifCond .eq 13, 3) := by decide +kernel
theorem dX8_setBeat_10 : decode cX8_setBeat 10 = .ok (.iload_n 2, 1) := by decide +kernel
theorem dX8_setBeat_11 : decode cX8_setBeat 11 = .ok (.iconst 1, 1) := by decide +kernel
theorem dX8_setBeat_12 : decode cX8_setBeat 12 = .ok (.bipush 20, 2) := by decide +kernel
theorem dX8_setBeat_14 : decode cX8_setBeat 14 = .ok (.invokestatic 63, 3) := by decide +kernel
theorem dX8_setBeat_17 : decode cX8_setBeat 17 = .ok (.ifCond .ne 13, 3) := by decide +kernel
theorem dX8_setBeat_20 : decode cX8_setBeat 20 = .ok (.new 67, 3) := by decide +kernel
theorem dX8_setBeat_23 : decode cX8_setBeat 23 = .ok (.dup, 1) := by decide +kernel
theorem dX8_setBeat_24 : decode cX8_setBeat 24 = .ok (.ldc 109, 2) := by decide +kernel
theorem dX8_setBeat_26 : decode cX8_setBeat 26 = .ok (.invokespecial 71, 3) := by decide +kernel
theorem dX8_setBeat_29 : decode cX8_setBeat 29 = .ok (.athrow, 1) := by decide +kernel
theorem dX8_setBeat_30 : decode cX8_setBeat 30 = .ok (.aload_n 0, 1) := by decide +kernel
theorem dX8_setBeat_31 : decode cX8_setBeat 31 = .ok (.getfield 19, 3) := by decide +kernel
theorem dX8_setBeat_34 : decode cX8_setBeat 34 = .ok (.iload_n 1, 1) := by decide +kernel
theorem dX8_setBeat_35 : decode cX8_setBeat 35 = .ok (.iload_n 2, 1) := by decide +kernel
theorem dX8_setBeat_36 : decode cX8_setBeat 36 = .ok (.invokevirtual 111, 3) := by decide +kernel
theorem dX8_setBeat_39 : decode cX8_setBeat 39 = .ok (.ireturn, 1) := by decide +kernel
theorem dX8_pass_0 : decode cX8_pass 0 = .ok (.aload_n 0, 1) := by decide +kernel
theorem dX8_pass_1 : decode cX8_pass 1 = .ok (.iload_n 1, 1) := by decide +kernel
theorem dX8_pass_2 : decode cX8_pass 2 = .ok (.invokevirtual 102, 3) := by decide +kernel
theorem dX8_pass_5 : decode cX8_pass 5 = .ok (.aload_n 0, 1) := by decide +kernel
theorem dX8_pass_6 : decode cX8_pass 6 = .ok (.dup, 1) := by decide +kernel
theorem dX8_pass_7 : decode cX8_pass 7 = .ok (.getfield 50, 3) := by decide +kernel
theorem dX8_pass_10 : decode cX8_pass 10 = .ok (.iload_n 1, 1) := by decide +kernel
theorem dX8_pass_11 : decode cX8_pass 11 = .ok (.i2l, 1) := by decide +kernel
theorem dX8_pass_12 : decode cX8_pass 12 = .ok (.ladd, 1) := by decide +kernel
theorem dX8_pass_13 : decode cX8_pass 13 = .ok (.putfield 50, 3) := by decide +kernel
theorem dX8_pass_16 : decode cX8_pass 16 = .ok (.aload_n 0, 1) := by decide +kernel
theorem dX8_pass_17 : decode cX8_pass 17 = .ok (.aload_n 0, 1) := by decide +kernel
theorem dX8_pass_18 : decode cX8_pass 18 = .ok (.getfield 26, 3) := by decide +kernel
theorem dX8_pass_21 : decode cX8_pass 21 = .ok (.aload_n 0, 1) := by decide +kernel
theorem dX8_pass_22 : decode cX8_pass 22 = .ok (.getfield 19, 3) := by decide +kernel
theorem dX8_pass_25 : decode cX8_pass 25 = .ok (.iload_n 1, 1) := by decide +kernel
theorem dX8_pass_26 : decode cX8_pass 26 = .ok (.invokevirtual 115, 3) := by decide +kernel
theorem dX8_pass_29 : decode cX8_pass 29 = .ok (.iconst 1, 1) := by decide +kernel
theorem dX8_pass_30 : decode cX8_pass 30 = .ok (.invokevirtual 119, 3) := by decide +kernel
theorem dX8_pass_33 : decode cX8_pass 33 = .ok (.ireturn, 1) := by decide +kernel
theorem dX8_beats_0 : decode cX8_beats 0 = .ok (.aload_n 0, 1) := by decide +kernel
theorem dX8_beats_1 : decode cX8_beats 1 = .ok (.getfield 50, 3) := by decide +kernel
theorem dX8_beats_4 : decode cX8_beats 4 = .ok (.lreturn, 1) := by decide +kernel
theorem dX8_shown_0 : decode cX8_shown 0 = .ok (.aload_n 0, 1) := by decide +kernel
theorem dX8_shown_1 : decode cX8_shown 1 = .ok (.getfield 26, 3) := by decide +kernel
theorem dX8_shown_4 : decode cX8_shown 4 = .ok (.invokevirtual 123, 3) := by decide +kernel
theorem dX8_shown_7 : decode cX8_shown 7 = .ok (.ireturn, 1) := by decide +kernel
theorem dX8_hour_0 : decode cX8_hour 0 = .ok (.aload_n 0, 1) := by decide +kernel
theorem dX8_hour_1 : decode cX8_hour 1 = .ok (.getfield 26, 3) := by decide +kernel
theorem dX8_hour_4 : decode cX8_hour 4 = .ok (.invokevirtual 123, 3) := by decide +kernel
theorem dX8_hour_7 : decode cX8_hour 7 = .ok (.invokestatic 126, 3) := by decide +kernel
theorem dX8_hour_10 : decode cX8_hour 10 = .ok (.ireturn, 1) := by decide +kernel
theorem dX8_minute_0 : decode cX8_minute 0 = .ok (.aload_n 0, 1) := by decide +kernel
theorem dX8_minute_1 : decode cX8_minute 1 = .ok (.getfield 26, 3) := by decide +kernel
theorem dX8_minute_4 : decode cX8_minute 4 = .ok (.invokevirtual 123, 3) := by decide +kernel
theorem dX8_minute_7 : decode cX8_minute 7 = .ok (.bipush 60, 2) := by decide +kernel
theorem dX8_minute_9 : decode cX8_minute 9 = .ok (.invokestatic 129, 3) := by decide +kernel
theorem dX8_minute_12 : decode cX8_minute 12 = .ok (.bipush 60, 2) := by decide +kernel
theorem dX8_minute_14 : decode cX8_minute 14 = .ok (.invokestatic 134, 3) := by decide +kernel
theorem dX8_minute_17 : decode cX8_minute 17 = .ok (.ireturn, 1) := by decide +kernel
theorem dX8_owe_0 : decode cX8_owe 0 = .ok (.iload_n 1, 1) := by decide +kernel
theorem dX8_owe_1 : decode cX8_owe 1 = .ok (.sipush (-600), 3) := by decide +kernel
theorem dX8_owe_4 : decode cX8_owe 4 = .ok (.sipush 600, 3) := by decide +kernel
theorem dX8_owe_7 : decode cX8_owe 7 = .ok (.invokestatic 63, 3) := by decide +kernel
theorem dX8_owe_10 : decode cX8_owe 10 = .ok (.ifCond .ne 13, 3) := by decide +kernel
theorem dX8_owe_13 : decode cX8_owe 13 = .ok (.new 67, 3) := by decide +kernel
theorem dX8_owe_16 : decode cX8_owe 16 = .ok (.dup, 1) := by decide +kernel
theorem dX8_owe_17 : decode cX8_owe 17 = .ok (.ldc 137, 2) := by decide +kernel
theorem dX8_owe_19 : decode cX8_owe 19 = .ok (.invokespecial 71, 3) := by decide +kernel
theorem dX8_owe_22 : decode cX8_owe 22 = .ok (.athrow, 1) := by decide +kernel
theorem dX8_owe_23 : decode cX8_owe 23 = .ok (.aload_n 0, 1) := by decide +kernel
theorem dX8_owe_24 : decode cX8_owe 24 = .ok (.getfield 26, 3) := by decide +kernel
theorem dX8_owe_27 : decode cX8_owe 27 = .ok (.invokevirtual 139, 3) := by decide +kernel
theorem dX8_owe_30 : decode cX8_owe 30 = .ok (.iload_n 1, 1) := by decide +kernel
theorem dX8_owe_31 : decode cX8_owe 31 = .ok (.iadd, 1) := by decide +kernel
theorem dX8_owe_32 : decode cX8_owe 32 = .ok (.sipush (-3600), 3) := by decide +kernel
theorem dX8_owe_35 : decode cX8_owe 35 = .ok (.sipush 3600, 3) := by decide +kernel
theorem dX8_owe_38 : decode cX8_owe 38 = .ok (.invokestatic 63, 3) := by decide +kernel
theorem dX8_owe_41 : decode cX8_owe 41 = .ok (.ifCond .ne 13, 3) := by decide +kernel
theorem dX8_owe_44 : decode cX8_owe 44 = .ok (.new 67, 3) := by decide +kernel
theorem dX8_owe_47 : decode cX8_owe 47 = .ok (.dup, 1) := by decide +kernel
theorem dX8_owe_48 : decode cX8_owe 48 = .ok (.ldc 142, 2) := by decide +kernel
theorem dX8_owe_50 : decode cX8_owe 50 = .ok (.invokespecial 71, 3) := by decide +kernel
theorem dX8_owe_53 : decode cX8_owe 53 = .ok (.athrow, 1) := by decide +kernel
theorem dX8_owe_54 : decode cX8_owe 54 = .ok (.aload_n 0, 1) := by decide +kernel
theorem dX8_owe_55 : decode cX8_owe 55 = .ok (.getfield 26, 3) := by decide +kernel
theorem dX8_owe_58 : decode cX8_owe 58 = .ok (.iload_n 1, 1) := by decide +kernel
theorem dX8_owe_59 : decode cX8_owe 59 = .ok (.invokevirtual 144, 3) := by decide +kernel
theorem dX8_owe_62 : decode cX8_owe 62 = .ok (.ireturn, 1) := by decide +kernel
theorem dX8_setBound_0 : decode cX8_setBound 0 = .ok (.iload_n 1, 1) := by decide +kernel
theorem dX8_setBound_1 : decode cX8_setBound 1 = .ok (.iconst 0, 1) := by decide +kernel
theorem dX8_setBound_2 : decode cX8_setBound 2 = .ok (.bipush 30, 2) := by decide +kernel
theorem dX8_setBound_4 : decode cX8_setBound 4 = .ok (.invokestatic 63, 3) := by decide +kernel
theorem dX8_setBound_7 : decode cX8_setBound 7 = .ok (.ifCond .ne 13, 3) := by decide +kernel
theorem dX8_setBound_10 : decode cX8_setBound 10 = .ok (.new 67, 3) := by decide +kernel
theorem dX8_setBound_13 : decode cX8_setBound 13 = .ok (.dup, 1) := by decide +kernel
theorem dX8_setBound_14 : decode cX8_setBound 14 = .ok (.ldc 147, 2) := by decide +kernel
theorem dX8_setBound_16 : decode cX8_setBound 16 = .ok (.invokespecial 71, 3) := by decide +kernel
theorem dX8_setBound_19 : decode cX8_setBound 19 = .ok (.athrow, 1) := by decide +kernel
theorem dX8_setBound_20 : decode cX8_setBound 20 = .ok (.aload_n 0, 1) := by decide +kernel
theorem dX8_setBound_21 : decode cX8_setBound 21 = .ok (.getfield 26, 3) := by decide +kernel
theorem dX8_setBound_24 : decode cX8_setBound 24 = .ok (.iload_n 1, 1) := by decide +kernel
theorem dX8_setBound_25 : decode cX8_setBound 25 = .ok (.invokevirtual 149, 3) := by decide +kernel
theorem dX8_setBound_28 : decode cX8_setBound 28 = .ok (.ireturn, 1) := by decide +kernel
theorem dX8_setDate_0 : decode cX8_setDate 0 = .ok (.aload_n 0, 1) := by decide +kernel
theorem dX8_setDate_1 : decode cX8_setDate 1 = .ok (.iload_n 1, 1) := by decide +kernel
theorem dX8_setDate_2 : decode cX8_setDate 2 = .ok (.iload_n 2, 1) := by decide +kernel
theorem dX8_setDate_3 : decode cX8_setDate 3 = .ok (.iload_n 3, 1) := by decide +kernel
theorem dX8_setDate_4 : decode cX8_setDate 4 = .ok (.invokevirtual 152, 3) := by decide +kernel
theorem dX8_setDate_7 : decode cX8_setDate 7 = .ok (.iload_n 1, 1) := by decide +kernel
theorem dX8_setDate_8 : decode cX8_setDate 8 = .ok (.sipush 1600, 3) := by decide +kernel
theorem dX8_setDate_11 : decode cX8_setDate 11 = .ok (.if_icmp .ge 13, 3) := by decide +kernel
theorem dX8_setDate_14 : decode cX8_setDate 14 = .ok (.new 67, 3) := by decide +kernel
theorem dX8_setDate_17 : decode cX8_setDate 17 = .ok (.dup, 1) := by decide +kernel
theorem dX8_setDate_18 : decode cX8_setDate 18 = .ok (.ldc 156, 2) := by decide +kernel
theorem dX8_setDate_20 : decode cX8_setDate 20 = .ok (.invokespecial 71, 3) := by decide +kernel
theorem dX8_setDate_23 : decode cX8_setDate 23 = .ok (.athrow, 1) := by decide +kernel
theorem dX8_setDate_24 : decode cX8_setDate 24 = .ok (.iload_n 1, 1) := by decide +kernel
theorem dX8_setDate_25 : decode cX8_setDate 25 = .ok (.iload_n 2, 1) := by decide +kernel
theorem dX8_setDate_26 : decode cX8_setDate 26 = .ok (.iload_n 3, 1) := by decide +kernel
theorem dX8_setDate_27 : decode cX8_setDate 27 = .ok (.invokestatic 54, 3) := by decide +kernel
theorem dX8_setDate_30 : decode cX8_setDate 30 = .ok (.lstore 4, 2) := by decide +kernel
theorem dX8_setDate_32 : decode cX8_setDate 32 = .ok (.aload_n 0, 1) := by decide +kernel
theorem dX8_setDate_33 : decode cX8_setDate 33 = .ok (.lload 4, 2) := by decide +kernel
theorem dX8_setDate_35 : decode cX8_setDate 35 = .ok (.aload_n 0, 1) := by decide +kernel
theorem dX8_setDate_36 : decode cX8_setDate 36 = .ok (.invokevirtual 158, 3) := by decide +kernel
theorem dX8_setDate_39 : decode cX8_setDate 39 = .ok (.i2l, 1) := by decide +kernel
theorem dX8_setDate_40 : decode cX8_setDate 40 = .ok (.lsub, 1) := by decide +kernel
theorem dX8_setDate_41 : decode cX8_setDate 41 = .ok (.putfield 60, 3) := by decide +kernel
theorem dX8_setDate_44 : decode cX8_setDate 44 = .ok (.lload 4, 2) := by decide +kernel
theorem dX8_setDate_46 : decode cX8_setDate 46 = .ok (.invokestatic 161, 3) := by decide +kernel
theorem dX8_setDate_49 : decode cX8_setDate 49 = .ok (.ireturn, 1) := by decide +kernel
theorem dX8_year_0 : decode cX8_year 0 = .ok (.aload_n 0, 1) := by decide +kernel
theorem dX8_year_1 : decode cX8_year 1 = .ok (.invokevirtual 165, 3) := by decide +kernel
theorem dX8_year_4 : decode cX8_year 4 = .ok (.invokestatic 169, 3) := by decide +kernel
theorem dX8_year_7 : decode cX8_year 7 = .ok (.ireturn, 1) := by decide +kernel
theorem dX8_month_0 : decode cX8_month 0 = .ok (.aload_n 0, 1) := by decide +kernel
theorem dX8_month_1 : decode cX8_month 1 = .ok (.invokevirtual 165, 3) := by decide +kernel
theorem dX8_month_4 : decode cX8_month 4 = .ok (.invokestatic 172, 3) := by decide +kernel
theorem dX8_month_7 : decode cX8_month 7 = .ok (.ireturn, 1) := by decide +kernel
theorem dX8_day_0 : decode cX8_day 0 = .ok (.aload_n 0, 1) := by decide +kernel
theorem dX8_day_1 : decode cX8_day 1 = .ok (.invokevirtual 165, 3) := by decide +kernel
theorem dX8_day_4 : decode cX8_day 4 = .ok (.invokestatic 175, 3) := by decide +kernel
theorem dX8_day_7 : decode cX8_day 7 = .ok (.ireturn, 1) := by decide +kernel
theorem dX8_weekday_0 : decode cX8_weekday 0 = .ok (.aload_n 0, 1) := by decide +kernel
theorem dX8_weekday_1 : decode cX8_weekday 1 = .ok (.invokevirtual 165, 3) := by decide +kernel
theorem dX8_weekday_4 : decode cX8_weekday 4 = .ok (.invokestatic 161, 3) := by decide +kernel
theorem dX8_weekday_7 : decode cX8_weekday 7 = .ok (.ireturn, 1) := by decide +kernel
theorem dX8_isLeap_0 : decode cX8_isLeap 0 = .ok (.iload_n 1, 1) := by decide +kernel
theorem dX8_isLeap_1 : decode cX8_isLeap 1 = .ok (.iconst 1, 1) := by decide +kernel
theorem dX8_isLeap_2 : decode cX8_isLeap 2 = .ok (.sipush 3000, 3) := by decide +kernel
theorem dX8_isLeap_5 : decode cX8_isLeap 5 = .ok (.invokestatic 63, 3) := by decide +kernel
theorem dX8_isLeap_8 : decode cX8_isLeap 8 = .ok (.ifCond .ne 13, 3) := by decide +kernel
theorem dX8_isLeap_11 : decode cX8_isLeap 11 = .ok (.new 67, 3) := by decide +kernel
theorem dX8_isLeap_14 : decode cX8_isLeap 14 = .ok (.dup, 1) := by decide +kernel
theorem dX8_isLeap_15 : decode cX8_isLeap 15 = .ok (.ldc 178, 2) := by decide +kernel
theorem dX8_isLeap_17 : decode cX8_isLeap 17 = .ok (.invokespecial 71, 3) := by decide +kernel
theorem dX8_isLeap_20 : decode cX8_isLeap 20 = .ok (.athrow, 1) := by decide +kernel
theorem dX8_isLeap_21 : decode cX8_isLeap 21 = .ok (.iload_n 1, 1) := by decide +kernel
theorem dX8_isLeap_22 : decode cX8_isLeap 22 = .ok (.invokestatic 180, 3) := by decide +kernel
theorem dX8_isLeap_25 : decode cX8_isLeap 25 = .ok (.ireturn, 1) := by decide +kernel
theorem dX8_numberOf_0 : decode cX8_numberOf 0 = .ok (.aload_n 0, 1) := by decide +kernel
theorem dX8_numberOf_1 : decode cX8_numberOf 1 = .ok (.iload_n 1, 1) := by decide +kernel
theorem dX8_numberOf_2 : decode cX8_numberOf 2 = .ok (.iload_n 2, 1) := by decide +kernel
theorem dX8_numberOf_3 : decode cX8_numberOf 3 = .ok (.iload_n 3, 1) := by decide +kernel
theorem dX8_numberOf_4 : decode cX8_numberOf 4 = .ok (.invokevirtual 152, 3) := by decide +kernel
theorem dX8_numberOf_7 : decode cX8_numberOf 7 = .ok (.iload_n 1, 1) := by decide +kernel
theorem dX8_numberOf_8 : decode cX8_numberOf 8 = .ok (.iload_n 2, 1) := by decide +kernel
theorem dX8_numberOf_9 : decode cX8_numberOf 9 = .ok (.iload_n 3, 1) := by decide +kernel
theorem dX8_numberOf_10 : decode cX8_numberOf 10 = .ok (.invokestatic 54, 3) := by decide +kernel
theorem dX8_numberOf_13 : decode cX8_numberOf 13 = .ok (.lreturn, 1) := by decide +kernel
theorem dX8_numberByCounting_0 : decode cX8_numberByCounting 0 = .ok (.aload_n 0, 1) := by decide +kernel
theorem dX8_numberByCounting_1 : decode cX8_numberByCounting 1 = .ok (.iload_n 1, 1) := by decide +kernel
theorem dX8_numberByCounting_2 : decode cX8_numberByCounting 2 = .ok (.iload_n 2, 1) := by decide +kernel
theorem dX8_numberByCounting_3 : decode cX8_numberByCounting 3 = .ok (.iload_n 3, 1) := by decide +kernel
theorem dX8_numberByCounting_4 : decode cX8_numberByCounting 4 = .ok (.invokevirtual 152, 3) := by decide +kernel
theorem dX8_numberByCounting_7 : decode cX8_numberByCounting 7 = .ok (.iload_n 1, 1) := by decide +kernel
theorem dX8_numberByCounting_8 : decode cX8_numberByCounting 8 = .ok (.iload_n 2, 1) := by decide +kernel
theorem dX8_numberByCounting_9 : decode cX8_numberByCounting 9 = .ok (.iload_n 3, 1) := by decide +kernel
theorem dX8_numberByCounting_10 : decode cX8_numberByCounting 10 = .ok (.invokestatic 184, 3) := by decide +kernel
theorem dX8_numberByCounting_13 : decode cX8_numberByCounting 13 = .ok (.lreturn, 1) := by decide +kernel
theorem dX8_setSilence_0 : decode cX8_setSilence 0 = .ok (.iload_n 1, 1) := by decide +kernel
theorem dX8_setSilence_1 : decode cX8_setSilence 1 = .ok (.invokestatic 187, 3) := by decide +kernel
theorem dX8_setSilence_4 : decode cX8_setSilence 4 = .ok (.ifCond .eq 10, 3) := by decide +kernel
theorem dX8_setSilence_7 : decode cX8_setSilence 7 = .ok (.iload_n 2, 1) := by decide +kernel
theorem dX8_setSilence_8 : decode cX8_setSilence 8 = .ok (.invokestatic 187, 3) := by decide +kernel
theorem dX8_setSilence_11 : decode cX8_setSilence 11 = .ok (.ifCond .ne 13, 3) := by decide +kernel
theorem dX8_setSilence_14 : decode cX8_setSilence 14 = .ok (.new 67, 3) := by decide +kernel
theorem dX8_setSilence_17 : decode cX8_setSilence 17 = .ok (.dup, 1) := by decide +kernel
theorem dX8_setSilence_18 : decode cX8_setSilence 18 = .ok (.ldc 190, 2) := by decide +kernel
theorem dX8_setSilence_20 : decode cX8_setSilence 20 = .ok (.invokespecial 71, 3) := by decide +kernel
theorem dX8_setSilence_23 : decode cX8_setSilence 23 = .ok (.athrow, 1) := by decide +kernel
theorem dX8_setSilence_24 : decode cX8_setSilence 24 = .ok (.aload_n 0, 1) := by decide +kernel
theorem dX8_setSilence_25 : decode cX8_setSilence 25 = .ok (.getfield 33, 3) := by decide +kernel
theorem dX8_setSilence_28 : decode cX8_setSilence 28 = .ok (.iload_n 1, 1) := by decide +kernel
theorem dX8_setSilence_29 : decode cX8_setSilence 29 = .ok (.iload_n 2, 1) := by decide +kernel
theorem dX8_setSilence_30 : decode cX8_setSilence 30 = .ok (.invokevirtual 192, 3) := by decide +kernel
theorem dX8_setSilence_33 : decode cX8_setSilence 33 = .ok (.ireturn, 1) := by decide +kernel
theorem dX8_setQuarters_0 : decode cX8_setQuarters 0 = .ok (.aload_n 0, 1) := by decide +kernel
theorem dX8_setQuarters_1 : decode cX8_setQuarters 1 = .ok (.getfield 33, 3) := by decide +kernel
theorem dX8_setQuarters_4 : decode cX8_setQuarters 4 = .ok (.iload_n 1, 1) := by decide +kernel
theorem dX8_setQuarters_5 : decode cX8_setQuarters 5 = .ok (.invokevirtual 195, 3) := by decide +kernel
theorem dX8_setQuarters_8 : decode cX8_setQuarters 8 = .ok (.ireturn, 1) := by decide +kernel
theorem dX8_addDrum_0 : decode cX8_addDrum 0 = .ok (.aload_n 0, 1) := by decide +kernel
theorem dX8_addDrum_1 : decode cX8_addDrum 1 = .ok (.getfield 33, 3) := by decide +kernel
theorem dX8_addDrum_4 : decode cX8_addDrum 4 = .ok (.invokevirtual 199, 3) := by decide +kernel
theorem dX8_addDrum_7 : decode cX8_addDrum 7 = .ok (.iconst 4, 1) := by decide +kernel
theorem dX8_addDrum_8 : decode cX8_addDrum 8 = .ok (.if_icmp .lt 13, 3) := by decide +kernel
theorem dX8_addDrum_11 : decode cX8_addDrum 11 = .ok (.new 78, 3) := by decide +kernel
theorem dX8_addDrum_14 : decode cX8_addDrum 14 = .ok (.dup, 1) := by decide +kernel
theorem dX8_addDrum_15 : decode cX8_addDrum 15 = .ok (.ldc 202, 2) := by decide +kernel
theorem dX8_addDrum_17 : decode cX8_addDrum 17 = .ok (.invokespecial 82, 3) := by decide +kernel
theorem dX8_addDrum_20 : decode cX8_addDrum 20 = .ok (.athrow, 1) := by decide +kernel
theorem dX8_addDrum_21 : decode cX8_addDrum 21 = .ok (.aload_n 0, 1) := by decide +kernel
theorem dX8_addDrum_22 : decode cX8_addDrum 22 = .ok (.getfield 33, 3) := by decide +kernel
theorem dX8_addDrum_25 : decode cX8_addDrum 25 = .ok (.invokevirtual 204, 3) := by decide +kernel
theorem dX8_addDrum_28 : decode cX8_addDrum 28 = .ok (.ireturn, 1) := by decide +kernel
theorem dX8_setPin_0 : decode cX8_setPin 0 = .ok (.aload_n 0, 1) := by decide +kernel
theorem dX8_setPin_1 : decode cX8_setPin 1 = .ok (.iload_n 1, 1) := by decide +kernel
theorem dX8_setPin_2 : decode cX8_setPin 2 = .ok (.invokevirtual 207, 3) := by decide +kernel
theorem dX8_setPin_5 : decode cX8_setPin 5 = .ok (.astore 5, 2) := by decide +kernel
theorem dX8_setPin_7 : decode cX8_setPin 7 = .ok (.iload_n 2, 1) := by decide +kernel
theorem dX8_setPin_8 : decode cX8_setPin 8 = .ok (.iconst 0, 1) := by decide +kernel
theorem dX8_setPin_9 : decode cX8_setPin 9 = .ok (.bipush 31, 2) := by decide +kernel
theorem dX8_setPin_11 : decode cX8_setPin 11 = .ok (.invokestatic 63, 3) := by decide +kernel
theorem dX8_setPin_14 : decode cX8_setPin 14 = .ok (.ifCond .eq 13, 3) := by decide +kernel
theorem dX8_setPin_17 : decode cX8_setPin 17 = .ok (.iload_n 3, 1) := by decide +kernel
theorem dX8_setPin_18 : decode cX8_setPin 18 = .ok (.iconst 1, 1) := by decide +kernel
theorem dX8_setPin_19 : decode cX8_setPin 19 = .ok (.bipush 8, 2) := by decide +kernel
theorem dX8_setPin_21 : decode cX8_setPin 21 = .ok (.invokestatic 63, 3) := by decide +kernel
theorem dX8_setPin_24 : decode cX8_setPin 24 = .ok (.ifCond .ne 13, 3) := by decide +kernel
theorem dX8_setPin_27 : decode cX8_setPin 27 = .ok (.new 67, 3) := by decide +kernel
theorem dX8_setPin_30 : decode cX8_setPin 30 = .ok (.dup, 1) := by decide +kernel
theorem dX8_setPin_31 : decode cX8_setPin 31 = .ok (.ldc 213, 2) := by decide +kernel
theorem dX8_setPin_33 : decode cX8_setPin 33 = .ok (.invokespecial 71, 3) := by decide +kernel
theorem dX8_setPin_36 : decode cX8_setPin 36 = .ok (.athrow, 1) := by decide +kernel
theorem dX8_setPin_37 : decode cX8_setPin 37 = .ok (.aload 5, 2) := by decide +kernel
theorem dX8_setPin_39 : decode cX8_setPin 39 = .ok (.iload_n 2, 1) := by decide +kernel
theorem dX8_setPin_40 : decode cX8_setPin 40 = .ok (.iload_n 3, 1) := by decide +kernel
theorem dX8_setPin_41 : decode cX8_setPin 41 = .ok (.iload 4, 2) := by decide +kernel
theorem dX8_setPin_43 : decode cX8_setPin 43 = .ok (.invokevirtual 215, 3) := by decide +kernel
theorem dX8_setPin_46 : decode cX8_setPin 46 = .ok (.ireturn, 1) := by decide +kernel
theorem dX8_pins_0 : decode cX8_pins 0 = .ok (.aload_n 0, 1) := by decide +kernel
theorem dX8_pins_1 : decode cX8_pins 1 = .ok (.iload_n 1, 1) := by decide +kernel
theorem dX8_pins_2 : decode cX8_pins 2 = .ok (.invokevirtual 207, 3) := by decide +kernel
theorem dX8_pins_5 : decode cX8_pins 5 = .ok (.invokevirtual 219, 3) := by decide +kernel
theorem dX8_pins_8 : decode cX8_pins 8 = .ok (.ireturn, 1) := by decide +kernel
theorem dX8_bellAt_0 : decode cX8_bellAt 0 = .ok (.aload_n 0, 1) := by decide +kernel
theorem dX8_bellAt_1 : decode cX8_bellAt 1 = .ok (.iload_n 1, 1) := by decide +kernel
theorem dX8_bellAt_2 : decode cX8_bellAt 2 = .ok (.invokevirtual 207, 3) := by decide +kernel
theorem dX8_bellAt_5 : decode cX8_bellAt 5 = .ok (.astore_n 3, 1) := by decide +kernel
theorem dX8_bellAt_6 : decode cX8_bellAt 6 = .ok (.iload_n 2, 1) := by decide +kernel
theorem dX8_bellAt_7 : decode cX8_bellAt 7 = .ok (.iconst 0, 1) := by decide +kernel
theorem dX8_bellAt_8 : decode cX8_bellAt 8 = .ok (.aload_n 3, 1) := by decide +kernel
theorem dX8_bellAt_9 : decode cX8_bellAt 9 = .ok (.invokevirtual 219, 3) := by decide +kernel
theorem dX8_bellAt_12 : decode cX8_bellAt 12 = .ok (.iconst 1, 1) := by decide +kernel
theorem dX8_bellAt_13 : decode cX8_bellAt 13 = .ok (.isub, 1) := by decide +kernel
theorem dX8_bellAt_14 : decode cX8_bellAt 14 = .ok (.invokestatic 63, 3) := by decide +kernel
theorem dX8_bellAt_17 : decode cX8_bellAt 17 = .ok (.ifCond .ne 13, 3) := by decide +kernel
theorem dX8_bellAt_20 : decode cX8_bellAt 20 = .ok (.new 222, 3) := by decide +kernel
theorem dX8_bellAt_23 : decode cX8_bellAt 23 = .ok (.dup, 1) := by decide +kernel
theorem dX8_bellAt_24 : decode cX8_bellAt 24 = .ok (.ldc 224, 2) := by decide +kernel
theorem dX8_bellAt_26 : decode cX8_bellAt 26 = .ok (.invokespecial 226, 3) := by decide +kernel
theorem dX8_bellAt_29 : decode cX8_bellAt 29 = .ok (.athrow, 1) := by decide +kernel
theorem dX8_bellAt_30 : decode cX8_bellAt 30 = .ok (.aload_n 3, 1) := by decide +kernel
theorem dX8_bellAt_31 : decode cX8_bellAt 31 = .ok (.iload_n 2, 1) := by decide +kernel
theorem dX8_bellAt_32 : decode cX8_bellAt 32 = .ok (.invokevirtual 227, 3) := by decide +kernel
theorem dX8_bellAt_35 : decode cX8_bellAt 35 = .ok (.ireturn, 1) := by decide +kernel
theorem dX8_setTune_0 : decode cX8_setTune 0 = .ok (.iload_n 1, 1) := by decide +kernel
theorem dX8_setTune_1 : decode cX8_setTune 1 = .ok (.invokestatic 187, 3) := by decide +kernel
theorem dX8_setTune_4 : decode cX8_setTune 4 = .ok (.ifCond .ne 13, 3) := by decide +kernel
theorem dX8_setTune_7 : decode cX8_setTune 7 = .ok (.new 67, 3) := by decide +kernel
theorem dX8_setTune_10 : decode cX8_setTune 10 = .ok (.dup, 1) := by decide +kernel
theorem dX8_setTune_11 : decode cX8_setTune 11 = .ok (.ldc 230, 2) := by decide +kernel
theorem dX8_setTune_13 : decode cX8_setTune 13 = .ok (.invokespecial 71, 3) := by decide +kernel
theorem dX8_setTune_16 : decode cX8_setTune 16 = .ok (.athrow, 1) := by decide +kernel
theorem dX8_setTune_17 : decode cX8_setTune 17 = .ok (.aload_n 0, 1) := by decide +kernel
theorem dX8_setTune_18 : decode cX8_setTune 18 = .ok (.getfield 33, 3) := by decide +kernel
theorem dX8_setTune_21 : decode cX8_setTune 21 = .ok (.iload_n 1, 1) := by decide +kernel
theorem dX8_setTune_22 : decode cX8_setTune 22 = .ok (.iload_n 2, 1) := by decide +kernel
theorem dX8_setTune_23 : decode cX8_setTune 23 = .ok (.iconst (-1), 1) := by decide +kernel
theorem dX8_setTune_24 : decode cX8_setTune 24 = .ok (.if_icmp .ne 7, 3) := by decide +kernel
theorem dX8_setTune_27 : decode cX8_setTune 27 = .ok (.aconst_null, 1) := by decide +kernel
theorem dX8_setTune_28 : decode cX8_setTune 28 = .ok (.goto 8, 3) := by decide +kernel
theorem dX8_setTune_31 : decode cX8_setTune 31 = .ok (.aload_n 0, 1) := by decide +kernel
theorem dX8_setTune_32 : decode cX8_setTune 32 = .ok (.iload_n 2, 1) := by decide +kernel
theorem dX8_setTune_33 : decode cX8_setTune 33 = .ok (.invokevirtual 207, 3) := by decide +kernel
theorem dX8_setTune_36 : decode cX8_setTune 36 = .ok (.invokevirtual 232, 3) := by decide +kernel
theorem dX8_setTune_39 : decode cX8_setTune 39 = .ok (.astore_n 3, 1) := by decide +kernel
theorem dX8_setTune_40 : decode cX8_setTune 40 = .ok (.aload_n 3, 1) := by decide +kernel
theorem dX8_setTune_41 : decode cX8_setTune 41 = .ok (.ifnonnull 7, 3) := by decide +kernel
theorem dX8_setTune_44 : decode cX8_setTune 44 = .ok (.iconst (-1), 1) := by decide +kernel
theorem dX8_setTune_45 : decode cX8_setTune 45 = .ok (.goto 7, 3) := by decide +kernel
theorem dX8_setTune_48 : decode cX8_setTune 48 = .ok (.aload_n 3, 1) := by decide +kernel
theorem dX8_setTune_49 : decode cX8_setTune 49 = .ok (.invokevirtual 236, 3) := by decide +kernel
theorem dX8_setTune_52 : decode cX8_setTune 52 = .ok (.ireturn, 1) := by decide +kernel
theorem dX8_strokes_0 : decode cX8_strokes 0 = .ok (.iload_n 1, 1) := by decide +kernel
theorem dX8_strokes_1 : decode cX8_strokes 1 = .ok (.iconst 0, 1) := by decide +kernel
theorem dX8_strokes_2 : decode cX8_strokes 2 = .ok (.bipush 8, 2) := by decide +kernel
theorem dX8_strokes_4 : decode cX8_strokes 4 = .ok (.invokestatic 63, 3) := by decide +kernel
theorem dX8_strokes_7 : decode cX8_strokes 7 = .ok (.ifCond .ne 13, 3) := by decide +kernel
theorem dX8_strokes_10 : decode cX8_strokes 10 = .ok (.new 239, 3) := by decide +kernel
theorem dX8_strokes_13 : decode cX8_strokes 13 = .ok (.dup, 1) := by decide +kernel
theorem dX8_strokes_14 : decode cX8_strokes 14 = .ok (.ldc 241, 2) := by decide +kernel
theorem dX8_strokes_16 : decode cX8_strokes 16 = .ok (.invokespecial 243, 3) := by decide +kernel
theorem dX8_strokes_19 : decode cX8_strokes 19 = .ok (.athrow, 1) := by decide +kernel
theorem dX8_strokes_20 : decode cX8_strokes 20 = .ok (.aload_n 0, 1) := by decide +kernel
theorem dX8_strokes_21 : decode cX8_strokes 21 = .ok (.getfield 33, 3) := by decide +kernel
theorem dX8_strokes_24 : decode cX8_strokes 24 = .ok (.iload_n 1, 1) := by decide +kernel
theorem dX8_strokes_25 : decode cX8_strokes 25 = .ok (.invokevirtual 244, 3) := by decide +kernel
theorem dX8_strokes_28 : decode cX8_strokes 28 = .ok (.ireturn, 1) := by decide +kernel
theorem dX8_strikes_0 : decode cX8_strikes 0 = .ok (.aload_n 0, 1) := by decide +kernel
theorem dX8_strikes_1 : decode cX8_strikes 1 = .ok (.getfield 40, 3) := by decide +kernel
theorem dX8_strikes_4 : decode cX8_strikes 4 = .ok (.invokevirtual 247, 3) := by decide +kernel
theorem dX8_strikes_7 : decode cX8_strikes 7 = .ok (.ireturn, 1) := by decide +kernel
theorem dX8_markAt_0 : decode cX8_markAt 0 = .ok (.iload_n 1, 1) := by decide +kernel
theorem dX8_markAt_1 : decode cX8_markAt 1 = .ok (.iconst 0, 1) := by decide +kernel
theorem dX8_markAt_2 : decode cX8_markAt 2 = .ok (.aload_n 0, 1) := by decide +kernel
theorem dX8_markAt_3 : decode cX8_markAt 3 = .ok (.getfield 40, 3) := by decide +kernel
theorem dX8_markAt_6 : decode cX8_markAt 6 = .ok (.invokevirtual 250, 3) := by decide +kernel
theorem dX8_markAt_9 : decode cX8_markAt 9 = .ok (.iconst 1, 1) := by decide +kernel
theorem dX8_markAt_10 : decode cX8_markAt 10 = .ok (.isub, 1) := by decide +kernel
theorem dX8_markAt_11 : decode cX8_markAt 11 = .ok (.invokestatic 63, 3) := by decide +kernel
theorem dX8_markAt_14 : decode cX8_markAt 14 = .ok (.ifCond .ne 13, 3) := by decide +kernel
theorem dX8_markAt_17 : decode cX8_markAt 17 = .ok (.new 222, 3) := by decide +kernel
theorem dX8_markAt_20 : decode cX8_markAt 20 = .ok (.dup, 1) := by decide +kernel
theorem dX8_markAt_21 : decode cX8_markAt 21 = .ok (.ldc 253, 2) := by decide +kernel
theorem dX8_markAt_23 : decode cX8_markAt 23 = .ok (.invokespecial 226, 3) := by decide +kernel
theorem dX8_markAt_26 : decode cX8_markAt 26 = .ok (.athrow, 1) := by decide +kernel
theorem dX8_markAt_27 : decode cX8_markAt 27 = .ok (.aload_n 0, 1) := by decide +kernel
theorem dX8_markAt_28 : decode cX8_markAt 28 = .ok (.getfield 40, 3) := by decide +kernel
theorem dX8_markAt_31 : decode cX8_markAt 31 = .ok (.iload_n 1, 1) := by decide +kernel
theorem dX8_markAt_32 : decode cX8_markAt 32 = .ok (.invokevirtual 255, 3) := by decide +kernel
theorem dX8_markAt_35 : decode cX8_markAt 35 = .ok (.ireturn, 1) := by decide +kernel
theorem dX8_strokesAt_0 : decode cX8_strokesAt 0 = .ok (.aload_n 0, 1) := by decide +kernel
theorem dX8_strokesAt_1 : decode cX8_strokesAt 1 = .ok (.getfield 40, 3) := by decide +kernel
theorem dX8_strokesAt_4 : decode cX8_strokesAt 4 = .ok (.iload_n 1, 1) := by decide +kernel
theorem dX8_strokesAt_5 : decode cX8_strokesAt 5 = .ok (.invokevirtual 258, 3) := by decide +kernel
theorem dX8_strokesAt_8 : decode cX8_strokesAt 8 = .ok (.istore_n 2, 1) := by decide +kernel
theorem dX8_strokesAt_9 : decode cX8_strokesAt 9 = .ok (.iload_n 2, 1) := by decide +kernel
theorem dX8_strokesAt_10 : decode cX8_strokesAt 10 = .ok (.ifCond .ge 14, 3) := by decide +kernel
theorem dX8_strokesAt_13 : decode cX8_strokesAt 13 = .ok (.new 222, 3) := by decide +kernel
theorem dX8_strokesAt_16 : decode cX8_strokesAt 16 = .ok (.dup, 1) := by decide +kernel
theorem dX8_strokesAt_17 : decode cX8_strokesAt 17 = .ok (.ldc_w 261, 3) := by decide +kernel
theorem dX8_strokesAt_20 : decode cX8_strokesAt 20 = .ok (.invokespecial 226, 3) := by decide +kernel
theorem dX8_strokesAt_23 : decode cX8_strokesAt 23 = .ok (.athrow, 1) := by decide +kernel
theorem dX8_strokesAt_24 : decode cX8_strokesAt 24 = .ok (.aload_n 0, 1) := by decide +kernel
theorem dX8_strokesAt_25 : decode cX8_strokesAt 25 = .ok (.getfield 40, 3) := by decide +kernel
theorem dX8_strokesAt_28 : decode cX8_strokesAt 28 = .ok (.iload_n 2, 1) := by decide +kernel
theorem dX8_strokesAt_29 : decode cX8_strokesAt 29 = .ok (.invokevirtual 263, 3) := by decide +kernel
theorem dX8_strokesAt_32 : decode cX8_strokesAt 32 = .ok (.ireturn, 1) := by decide +kernel
theorem dX8_strokesAhead_0 : decode cX8_strokesAhead 0 = .ok (.aload_n 0, 1) := by decide +kernel
theorem dX8_strokesAhead_1 : decode cX8_strokesAhead 1 = .ok (.iload_n 1, 1) := by decide +kernel
theorem dX8_strokesAhead_2 : decode cX8_strokesAhead 2 = .ok (.invokevirtual 102, 3) := by decide +kernel
theorem dX8_strokesAhead_5 : decode cX8_strokesAhead 5 = .ok (.aload_n 0, 1) := by decide +kernel
theorem dX8_strokesAhead_6 : decode cX8_strokesAhead 6 = .ok (.iload_n 1, 1) := by decide +kernel
theorem dX8_strokesAhead_7 : decode cX8_strokesAhead 7 = .ok (.invokevirtual 266, 3) := by decide +kernel
theorem dX8_strokesAhead_10 : decode cX8_strokesAhead 10 = .ok (.ireturn, 1) := by decide +kernel
theorem dX8_strokesByBeats_0 : decode cX8_strokesByBeats 0 = .ok (.aload_n 0, 1) := by decide +kernel
theorem dX8_strokesByBeats_1 : decode cX8_strokesByBeats 1 = .ok (.iload_n 1, 1) := by decide +kernel
theorem dX8_strokesByBeats_2 : decode cX8_strokesByBeats 2 = .ok (.invokevirtual 102, 3) := by decide +kernel
theorem dX8_strokesByBeats_5 : decode cX8_strokesByBeats 5 = .ok (.aload_n 0, 1) := by decide +kernel
theorem dX8_strokesByBeats_6 : decode cX8_strokesByBeats 6 = .ok (.iload_n 1, 1) := by decide +kernel
theorem dX8_strokesByBeats_7 : decode cX8_strokesByBeats 7 = .ok (.invokevirtual 269, 3) := by decide +kernel
theorem dX8_strokesByBeats_10 : decode cX8_strokesByBeats 10 = .ok (.ireturn, 1) := by decide +kernel
theorem dX8_struckShare_0 : decode cX8_struckShare 0 = .ok (.aload_n 0, 1) := by decide +kernel
theorem dX8_struckShare_1 : decode cX8_struckShare 1 = .ok (.getfield 26, 3) := by decide +kernel
theorem dX8_struckShare_4 : decode cX8_struckShare 4 = .ok (.invokevirtual 272, 3) := by decide +kernel
theorem dX8_struckShare_7 : decode cX8_struckShare 7 = .ok (.istore_n 1, 1) := by decide +kernel
theorem dX8_struckShare_8 : decode cX8_struckShare 8 = .ok (.iload_n 1, 1) := by decide +kernel
theorem dX8_struckShare_9 : decode cX8_struckShare 9 = .ok (.ifCond .ne 14, 3) := by decide +kernel
theorem dX8_struckShare_12 : decode cX8_struckShare 12 = .ok (.new 275, 3) := by decide +kernel
theorem dX8_struckShare_15 : decode cX8_struckShare 15 = .ok (.dup, 1) := by decide +kernel
theorem dX8_struckShare_16 : decode cX8_struckShare 16 = .ok (.ldc_w 277, 3) := by decide +kernel
theorem dX8_struckShare_19 : decode cX8_struckShare 19 = .ok (.invokespecial 279, 3) := by decide +kernel
theorem dX8_struckShare_22 : decode cX8_struckShare 22 = .ok (.athrow, 1) := by decide +kernel
theorem dX8_struckShare_23 : decode cX8_struckShare 23 = .ok (.aload_n 0, 1) := by decide +kernel
theorem dX8_struckShare_24 : decode cX8_struckShare 24 = .ok (.getfield 40, 3) := by decide +kernel
theorem dX8_struckShare_27 : decode cX8_struckShare 27 = .ok (.invokevirtual 247, 3) := by decide +kernel
theorem dX8_struckShare_30 : decode cX8_struckShare 30 = .ok (.i2f, 1) := by decide +kernel
theorem dX8_struckShare_31 : decode cX8_struckShare 31 = .ok (.iload_n 1, 1) := by decide +kernel
theorem dX8_struckShare_32 : decode cX8_struckShare 32 = .ok (.i2f, 1) := by decide +kernel
theorem dX8_struckShare_33 : decode cX8_struckShare 33 = .ok (.fdiv, 1) := by decide +kernel
theorem dX8_struckShare_34 : decode cX8_struckShare 34 = .ok (.freturn, 1) := by decide +kernel
theorem dX8_isOnce_0 : decode cX8_isOnce 0 = .ok (.aload_n 0, 1) := by decide +kernel
theorem dX8_isOnce_1 : decode cX8_isOnce 1 = .ok (.getfield 10, 3) := by decide +kernel
theorem dX8_isOnce_4 : decode cX8_isOnce 4 = .ok (.invokevirtual 74, 3) := by decide +kernel
theorem dX8_isOnce_7 : decode cX8_isOnce 7 = .ok (.iconst 1, 1) := by decide +kernel
theorem dX8_isOnce_8 : decode cX8_isOnce 8 = .ok (.isub, 1) := by decide +kernel
theorem dX8_isOnce_9 : decode cX8_isOnce 9 = .ok (.istore_n 1, 1) := by decide +kernel
theorem dX8_isOnce_10 : decode cX8_isOnce 10 = .ok (.aload_n 0, 1) := by decide +kernel
theorem dX8_isOnce_11 : decode cX8_isOnce 11 = .ok (.getfield 40, 3) := by decide +kernel
theorem dX8_isOnce_14 : decode cX8_isOnce 14 = .ok (.invokevirtual 280, 3) := by decide +kernel
theorem dX8_isOnce_17 : decode cX8_isOnce 17 = .ok (.ifCond .eq 25, 3) := by decide +kernel
theorem dX8_isOnce_20 : decode cX8_isOnce 20 = .ok (.aload_n 0, 1) := by decide +kernel
theorem dX8_isOnce_21 : decode cX8_isOnce 21 = .ok (.getfield 33, 3) := by decide +kernel
theorem dX8_isOnce_24 : decode cX8_isOnce 24 = .ok (.invokevirtual 284, 3) := by decide +kernel
theorem dX8_isOnce_27 : decode cX8_isOnce 27 = .ok (.aload_n 0, 1) := by decide +kernel
theorem dX8_isOnce_28 : decode cX8_isOnce 28 = .ok (.getfield 40, 3) := by decide +kernel
theorem dX8_isOnce_31 : decode cX8_isOnce 31 = .ok (.invokevirtual 287, 3) := by decide +kernel
theorem dX8_isOnce_34 : decode cX8_isOnce 34 = .ok (.lcmp, 1) := by decide +kernel
theorem dX8_isOnce_35 : decode cX8_isOnce 35 = .ok (.ifCond .ne 7, 3) := by decide +kernel
theorem dX8_isOnce_38 : decode cX8_isOnce 38 = .ok (.iconst 1, 1) := by decide +kernel
theorem dX8_isOnce_39 : decode cX8_isOnce 39 = .ok (.goto 4, 3) := by decide +kernel
theorem dX8_isOnce_42 : decode cX8_isOnce 42 = .ok (.iconst 0, 1) := by decide +kernel
theorem dX8_isOnce_43 : decode cX8_isOnce 43 = .ok (.istore_n 2, 1) := by decide +kernel
theorem dX8_isOnce_44 : decode cX8_isOnce 44 = .ok (.iconst 0, 1) := by decide +kernel
theorem dX8_isOnce_45 : decode cX8_isOnce 45 = .ok (.istore_n 3, 1) := by decide +kernel
theorem dX8_isOnce_46 : decode cX8_isOnce 46 = .ok (.iload_n 3, 1) := by decide +kernel
theorem dX8_isOnce_47 : decode cX8_isOnce 47 = .ok (.getstatic 290, 3) := by decide +kernel
theorem dX8_isOnce_50 : decode cX8_isOnce 50 = .ok (.arraylength, 1) := by decide +kernel
theorem dX8_isOnce_51 : decode cX8_isOnce 51 = .ok (.if_icmp .ge 75, 3) := by decide +kernel
theorem dX8_isOnce_54 : decode cX8_isOnce 54 = .ok (.getstatic 290, 3) := by decide +kernel
theorem dX8_isOnce_57 : decode cX8_isOnce 57 = .ok (.iload_n 3, 1) := by decide +kernel
theorem dX8_isOnce_58 : decode cX8_isOnce 58 = .ok (.iaload, 1) := by decide +kernel
theorem dX8_isOnce_59 : decode cX8_isOnce 59 = .ok (.istore 4, 2) := by decide +kernel
theorem dX8_isOnce_61 : decode cX8_isOnce 61 = .ok (.iload_n 2, 1) := by decide +kernel
theorem dX8_isOnce_62 : decode cX8_isOnce 62 = .ok (.ifCond .eq 56, 3) := by decide +kernel
theorem dX8_isOnce_65 : decode cX8_isOnce 65 = .ok (.aload_n 0, 1) := by decide +kernel
theorem dX8_isOnce_66 : decode cX8_isOnce 66 = .ok (.iload 4, 2) := by decide +kernel
theorem dX8_isOnce_68 : decode cX8_isOnce 68 = .ok (.invokevirtual 266, 3) := by decide +kernel
theorem dX8_isOnce_71 : decode cX8_isOnce 71 = .ok (.aload_n 0, 1) := by decide +kernel
theorem dX8_isOnce_72 : decode cX8_isOnce 72 = .ok (.iload 4, 2) := by decide +kernel
theorem dX8_isOnce_74 : decode cX8_isOnce 74 = .ok (.invokevirtual 269, 3) := by decide +kernel
theorem dX8_isOnce_77 : decode cX8_isOnce 77 = .ok (.if_icmp .ne 41, 3) := by decide +kernel
theorem dX8_isOnce_80 : decode cX8_isOnce 80 = .ok (.aload_n 0, 1) := by decide +kernel
theorem dX8_isOnce_81 : decode cX8_isOnce 81 = .ok (.getfield 10, 3) := by decide +kernel
theorem dX8_isOnce_84 : decode cX8_isOnce 84 = .ok (.iload_n 1, 1) := by decide +kernel
theorem dX8_isOnce_85 : decode cX8_isOnce 85 = .ok (.aload_n 0, 1) := by decide +kernel
theorem dX8_isOnce_86 : decode cX8_isOnce 86 = .ok (.getfield 50, 3) := by decide +kernel
theorem dX8_isOnce_89 : decode cX8_isOnce 89 = .ok (.iload 4, 2) := by decide +kernel
theorem dX8_isOnce_91 : decode cX8_isOnce 91 = .ok (.i2l, 1) := by decide +kernel
theorem dX8_isOnce_92 : decode cX8_isOnce 92 = .ok (.ladd, 1) := by decide +kernel
theorem dX8_isOnce_93 : decode cX8_isOnce 93 = .ok (.invokevirtual 91, 3) := by decide +kernel
theorem dX8_isOnce_96 : decode cX8_isOnce 96 = .ok (.aload_n 0, 1) := by decide +kernel
theorem dX8_isOnce_97 : decode cX8_isOnce 97 = .ok (.getfield 10, 3) := by decide +kernel
theorem dX8_isOnce_100 : decode cX8_isOnce 100 = .ok (.iload_n 1, 1) := by decide +kernel
theorem dX8_isOnce_101 : decode cX8_isOnce 101 = .ok (.aload_n 0, 1) := by decide +kernel
theorem dX8_isOnce_102 : decode cX8_isOnce 102 = .ok (.getfield 50, 3) := by decide +kernel
theorem dX8_isOnce_105 : decode cX8_isOnce 105 = .ok (.iload 4, 2) := by decide +kernel
theorem dX8_isOnce_107 : decode cX8_isOnce 107 = .ok (.invokevirtual 105, 3) := by decide +kernel
theorem dX8_isOnce_110 : decode cX8_isOnce 110 = .ok (.lcmp, 1) := by decide +kernel
theorem dX8_isOnce_111 : decode cX8_isOnce 111 = .ok (.ifCond .ne 7, 3) := by decide +kernel
theorem dX8_isOnce_114 : decode cX8_isOnce 114 = .ok (.iconst 1, 1) := by decide +kernel
theorem dX8_isOnce_115 : decode cX8_isOnce 115 = .ok (.goto 4, 3) := by decide +kernel
theorem dX8_isOnce_118 : decode cX8_isOnce 118 = .ok (.iconst 0, 1) := by decide +kernel
theorem dX8_isOnce_119 : decode cX8_isOnce 119 = .ok (.istore_n 2, 1) := by decide +kernel
theorem dX8_isOnce_120 : decode cX8_isOnce 120 = .ok (.iinc 3 1, 3) := by decide +kernel
theorem dX8_isOnce_123 : decode cX8_isOnce 123 = .ok (.goto (-77), 3) := by decide +kernel
theorem dX8_isOnce_126 : decode cX8_isOnce 126 = .ok (.iload_n 2, 1) := by decide +kernel
theorem dX8_isOnce_127 : decode cX8_isOnce 127 = .ok (.ireturn, 1) := by decide +kernel
theorem dX8_isWithin_0 : decode cX8_isWithin 0 = .ok (.iload_n 0, 1) := by decide +kernel
theorem dX8_isWithin_1 : decode cX8_isWithin 1 = .ok (.iload_n 1, 1) := by decide +kernel
theorem dX8_isWithin_2 : decode cX8_isWithin 2 = .ok (.if_icmp .lt 12, 3) := by decide +kernel
theorem dX8_isWithin_5 : decode cX8_isWithin 5 = .ok (.iload_n 0, 1) := by decide +kernel
theorem dX8_isWithin_6 : decode cX8_isWithin 6 = .ok (.iload_n 2, 1) := by decide +kernel
theorem dX8_isWithin_7 : decode cX8_isWithin 7 = .ok (.if_icmp .gt 7, 3) := by decide +kernel
theorem dX8_isWithin_10 : decode cX8_isWithin 10 = .ok (.iconst 1, 1) := by decide +kernel
theorem dX8_isWithin_11 : decode cX8_isWithin 11 = .ok (.goto 4, 3) := by decide +kernel
theorem dX8_isWithin_14 : decode cX8_isWithin 14 = .ok (.iconst 0, 1) := by decide +kernel
theorem dX8_isWithin_15 : decode cX8_isWithin 15 = .ok (.ireturn, 1) := by decide +kernel
theorem dX8_isHour_0 : decode cX8_isHour 0 = .ok (.iload_n 0, 1) := by decide +kernel
theorem dX8_isHour_1 : decode cX8_isHour 1 = .ok (.iconst 0, 1) := by decide +kernel
theorem dX8_isHour_2 : decode cX8_isHour 2 = .ok (.bipush 23, 2) := by decide +kernel
theorem dX8_isHour_4 : decode cX8_isHour 4 = .ok (.invokestatic 63, 3) := by decide +kernel
theorem dX8_isHour_7 : decode cX8_isHour 7 = .ok (.ireturn, 1) := by decide +kernel
theorem dX8_hourOf_0 : decode cX8_hourOf 0 = .ok (.iload_n 0, 1) := by decide +kernel
theorem dX8_hourOf_1 : decode cX8_hourOf 1 = .ok (.sipush 3600, 3) := by decide +kernel
theorem dX8_hourOf_4 : decode cX8_hourOf 4 = .ok (.invokestatic 129, 3) := by decide +kernel
theorem dX8_hourOf_7 : decode cX8_hourOf 7 = .ok (.bipush 24, 2) := by decide +kernel
theorem dX8_hourOf_9 : decode cX8_hourOf 9 = .ok (.invokestatic 134, 3) := by decide +kernel
theorem dX8_hourOf_12 : decode cX8_hourOf 12 = .ok (.ireturn, 1) := by decide +kernel
theorem dX8_wholePart_0 : decode cX8_wholePart 0 = .ok (.lload_n 2, 1) := by decide +kernel
theorem dX8_wholePart_1 : decode cX8_wholePart 1 = .ok (.lconst 1, 1) := by decide +kernel
theorem dX8_wholePart_2 : decode cX8_wholePart 2 = .ok (.lcmp, 1) := by decide +kernel
theorem dX8_wholePart_3 : decode cX8_wholePart 3 = .ok (.ifCond .ge 7, 3) := by decide +kernel
theorem dX8_wholePart_6 : decode cX8_wholePart 6 = .ok (.lconst 0, 1) := by decide +kernel
theorem dX8_wholePart_7 : decode cX8_wholePart 7 = .ok (.goto 8, 3) := by decide +kernel
theorem dX8_wholePart_10 : decode cX8_wholePart 10 = .ok (.lload_n 0, 1) := by decide +kernel
theorem dX8_wholePart_11 : decode cX8_wholePart 11 = .ok (.lload_n 2, 1) := by decide +kernel
theorem dX8_wholePart_12 : decode cX8_wholePart 12 = .ok (.invokestatic 294, 3) := by decide +kernel
theorem dX8_wholePart_15 : decode cX8_wholePart 15 = .ok (.lreturn, 1) := by decide +kernel
theorem dX8_requireWheel_0 : decode cX8_requireWheel 0 = .ok (.iload_n 1, 1) := by decide +kernel
theorem dX8_requireWheel_1 : decode cX8_requireWheel 1 = .ok (.iconst 0, 1) := by decide +kernel
theorem dX8_requireWheel_2 : decode cX8_requireWheel 2 = .ok (.aload_n 0, 1) := by decide +kernel
theorem dX8_requireWheel_3 : decode cX8_requireWheel 3 = .ok (.getfield 10, 3) := by decide +kernel
theorem dX8_requireWheel_6 : decode cX8_requireWheel 6 = .ok (.invokevirtual 74, 3) := by decide +kernel
theorem dX8_requireWheel_9 : decode cX8_requireWheel 9 = .ok (.iconst 1, 1) := by decide +kernel
theorem dX8_requireWheel_10 : decode cX8_requireWheel 10 = .ok (.isub, 1) := by decide +kernel
theorem dX8_requireWheel_11 : decode cX8_requireWheel 11 = .ok (.invokestatic 63, 3) := by decide +kernel
theorem dX8_requireWheel_14 : decode cX8_requireWheel 14 = .ok (.ifCond .ne 14, 3) := by decide +kernel
theorem dX8_requireWheel_17 : decode cX8_requireWheel 17 = .ok (.new 239, 3) := by decide +kernel
theorem dX8_requireWheel_20 : decode cX8_requireWheel 20 = .ok (.dup, 1) := by decide +kernel
theorem dX8_requireWheel_21 : decode cX8_requireWheel 21 = .ok (.ldc_w 297, 3) := by decide +kernel
theorem dX8_requireWheel_24 : decode cX8_requireWheel 24 = .ok (.invokespecial 243, 3) := by decide +kernel
theorem dX8_requireWheel_27 : decode cX8_requireWheel 27 = .ok (.athrow, 1) := by decide +kernel
theorem dX8_requireWheel_28 : decode cX8_requireWheel 28 = .ok (.return_, 1) := by decide +kernel
theorem dX8_requireBeats_0 : decode cX8_requireBeats 0 = .ok (.iload_n 1, 1) := by decide +kernel
theorem dX8_requireBeats_1 : decode cX8_requireBeats 1 = .ok (.iconst 1, 1) := by decide +kernel
theorem dX8_requireBeats_2 : decode cX8_requireBeats 2 = .ok (.sipush 5000, 3) := by decide +kernel
theorem dX8_requireBeats_5 : decode cX8_requireBeats 5 = .ok (.invokestatic 63, 3) := by decide +kernel
theorem dX8_requireBeats_8 : decode cX8_requireBeats 8 = .ok (.ifCond .ne 14, 3) := by decide +kernel
theorem dX8_requireBeats_11 : decode cX8_requireBeats 11 = .ok (.new 67, 3) := by decide +kernel
theorem dX8_requireBeats_14 : decode cX8_requireBeats 14 = .ok (.dup, 1) := by decide +kernel
theorem dX8_requireBeats_15 : decode cX8_requireBeats 15 = .ok (.ldc_w 299, 3) := by decide +kernel
theorem dX8_requireBeats_18 : decode cX8_requireBeats 18 = .ok (.invokespecial 71, 3) := by decide +kernel
theorem dX8_requireBeats_21 : decode cX8_requireBeats 21 = .ok (.athrow, 1) := by decide +kernel
theorem dX8_requireBeats_22 : decode cX8_requireBeats 22 = .ok (.return_, 1) := by decide +kernel
theorem dX8_requireDate_0 : decode cX8_requireDate 0 = .ok (.iload_n 1, 1) := by decide +kernel
theorem dX8_requireDate_1 : decode cX8_requireDate 1 = .ok (.iload_n 2, 1) := by decide +kernel
theorem dX8_requireDate_2 : decode cX8_requireDate 2 = .ok (.iload_n 3, 1) := by decide +kernel
theorem dX8_requireDate_3 : decode cX8_requireDate 3 = .ok (.invokestatic 301, 3) := by decide +kernel
theorem dX8_requireDate_6 : decode cX8_requireDate 6 = .ok (.ifCond .ne 14, 3) := by decide +kernel
theorem dX8_requireDate_9 : decode cX8_requireDate 9 = .ok (.new 67, 3) := by decide +kernel
theorem dX8_requireDate_12 : decode cX8_requireDate 12 = .ok (.dup, 1) := by decide +kernel
theorem dX8_requireDate_13 : decode cX8_requireDate 13 = .ok (.ldc_w 304, 3) := by decide +kernel
theorem dX8_requireDate_16 : decode cX8_requireDate 16 = .ok (.invokespecial 71, 3) := by decide +kernel
theorem dX8_requireDate_19 : decode cX8_requireDate 19 = .ok (.athrow, 1) := by decide +kernel
theorem dX8_requireDate_20 : decode cX8_requireDate 20 = .ok (.return_, 1) := by decide +kernel
theorem dX8_requireDrum_0 : decode cX8_requireDrum 0 = .ok (.aload_n 0, 1) := by decide +kernel
theorem dX8_requireDrum_1 : decode cX8_requireDrum 1 = .ok (.getfield 33, 3) := by decide +kernel
theorem dX8_requireDrum_4 : decode cX8_requireDrum 4 = .ok (.iload_n 1, 1) := by decide +kernel
theorem dX8_requireDrum_5 : decode cX8_requireDrum 5 = .ok (.invokevirtual 306, 3) := by decide +kernel
theorem dX8_requireDrum_8 : decode cX8_requireDrum 8 = .ok (.astore_n 2, 1) := by decide +kernel
theorem dX8_requireDrum_9 : decode cX8_requireDrum 9 = .ok (.aload_n 2, 1) := by decide +kernel
theorem dX8_requireDrum_10 : decode cX8_requireDrum 10 = .ok (.ifnonnull 14, 3) := by decide +kernel
theorem dX8_requireDrum_13 : decode cX8_requireDrum 13 = .ok (.new 239, 3) := by decide +kernel
theorem dX8_requireDrum_16 : decode cX8_requireDrum 16 = .ok (.dup, 1) := by decide +kernel
theorem dX8_requireDrum_17 : decode cX8_requireDrum 17 = .ok (.ldc_w 309, 3) := by decide +kernel
theorem dX8_requireDrum_20 : decode cX8_requireDrum 20 = .ok (.invokespecial 243, 3) := by decide +kernel
theorem dX8_requireDrum_23 : decode cX8_requireDrum 23 = .ok (.athrow, 1) := by decide +kernel
theorem dX8_requireDrum_24 : decode cX8_requireDrum 24 = .ok (.aload_n 2, 1) := by decide +kernel
theorem dX8_requireDrum_25 : decode cX8_requireDrum 25 = .ok (.areturn, 1) := by decide +kernel
theorem dX8_wholeDaysShown_0 : decode cX8_wholeDaysShown 0 = .ok (.aload_n 0, 1) := by decide +kernel
theorem dX8_wholeDaysShown_1 : decode cX8_wholeDaysShown 1 = .ok (.getfield 26, 3) := by decide +kernel
theorem dX8_wholeDaysShown_4 : decode cX8_wholeDaysShown 4 = .ok (.invokevirtual 123, 3) := by decide +kernel
theorem dX8_wholeDaysShown_7 : decode cX8_wholeDaysShown 7 = .ok (.ldc_w 311, 3) := by decide +kernel
theorem dX8_wholeDaysShown_10 : decode cX8_wholeDaysShown 10 = .ok (.invokestatic 129, 3) := by decide +kernel
theorem dX8_wholeDaysShown_13 : decode cX8_wholeDaysShown 13 = .ok (.ireturn, 1) := by decide +kernel
theorem dX8_dateShown_0 : decode cX8_dateShown 0 = .ok (.aload_n 0, 1) := by decide +kernel
theorem dX8_dateShown_1 : decode cX8_dateShown 1 = .ok (.getfield 60, 3) := by decide +kernel
theorem dX8_dateShown_4 : decode cX8_dateShown 4 = .ok (.aload_n 0, 1) := by decide +kernel
theorem dX8_dateShown_5 : decode cX8_dateShown 5 = .ok (.invokevirtual 158, 3) := by decide +kernel
theorem dX8_dateShown_8 : decode cX8_dateShown 8 = .ok (.i2l, 1) := by decide +kernel
theorem dX8_dateShown_9 : decode cX8_dateShown 9 = .ok (.ladd, 1) := by decide +kernel
theorem dX8_dateShown_10 : decode cX8_dateShown 10 = .ok (.lreturn, 1) := by decide +kernel
theorem dX8_countByMinutes_0 : decode cX8_countByMinutes 0 = .ok (.aload_n 0, 1) := by decide +kernel
theorem dX8_countByMinutes_1 : decode cX8_countByMinutes 1 = .ok (.getfield 47, 3) := by decide +kernel
theorem dX8_countByMinutes_4 : decode cX8_countByMinutes 4 = .ok (.aload_n 0, 1) := by decide +kernel
theorem dX8_countByMinutes_5 : decode cX8_countByMinutes 5 = .ok (.getfield 26, 3) := by decide +kernel
theorem dX8_countByMinutes_8 : decode cX8_countByMinutes 8 = .ok (.invokevirtual 312, 3) := by decide +kernel
theorem dX8_countByMinutes_11 : decode cX8_countByMinutes 11 = .ok (.aload_n 0, 1) := by decide +kernel
theorem dX8_countByMinutes_12 : decode cX8_countByMinutes 12 = .ok (.aload_n 0, 1) := by decide +kernel
theorem dX8_countByMinutes_13 : decode cX8_countByMinutes 13 = .ok (.getfield 47, 3) := by decide +kernel
theorem dX8_countByMinutes_16 : decode cX8_countByMinutes 16 = .ok (.aload_n 0, 1) := by decide +kernel
theorem dX8_countByMinutes_17 : decode cX8_countByMinutes 17 = .ok (.getfield 19, 3) := by decide +kernel
theorem dX8_countByMinutes_20 : decode cX8_countByMinutes 20 = .ok (.iload_n 1, 1) := by decide +kernel
theorem dX8_countByMinutes_21 : decode cX8_countByMinutes 21 = .ok (.invokevirtual 316, 3) := by decide +kernel
theorem dX8_countByMinutes_24 : decode cX8_countByMinutes 24 = .ok (.iconst 0, 1) := by decide +kernel
theorem dX8_countByMinutes_25 : decode cX8_countByMinutes 25 = .ok (.invokevirtual 119, 3) := by decide +kernel
theorem dX8_countByMinutes_28 : decode cX8_countByMinutes 28 = .ok (.ireturn, 1) := by decide +kernel
theorem dX8_countBySeconds_0 : decode cX8_countBySeconds 0 = .ok (.aload_n 0, 1) := by decide +kernel
theorem dX8_countBySeconds_1 : decode cX8_countBySeconds 1 = .ok (.getfield 47, 3) := by decide +kernel
theorem dX8_countBySeconds_4 : decode cX8_countBySeconds 4 = .ok (.aload_n 0, 1) := by decide +kernel
theorem dX8_countBySeconds_5 : decode cX8_countBySeconds 5 = .ok (.getfield 26, 3) := by decide +kernel
theorem dX8_countBySeconds_8 : decode cX8_countBySeconds 8 = .ok (.invokevirtual 312, 3) := by decide +kernel
theorem dX8_countBySeconds_11 : decode cX8_countBySeconds 11 = .ok (.aload_n 0, 1) := by decide +kernel
theorem dX8_countBySeconds_12 : decode cX8_countBySeconds 12 = .ok (.getfield 44, 3) := by decide +kernel
theorem dX8_countBySeconds_15 : decode cX8_countBySeconds 15 = .ok (.aload_n 0, 1) := by decide +kernel
theorem dX8_countBySeconds_16 : decode cX8_countBySeconds 16 = .ok (.getfield 19, 3) := by decide +kernel
theorem dX8_countBySeconds_19 : decode cX8_countBySeconds 19 = .ok (.invokevirtual 319, 3) := by decide +kernel
theorem dX8_countBySeconds_22 : decode cX8_countBySeconds 22 = .ok (.iconst 0, 1) := by decide +kernel
theorem dX8_countBySeconds_23 : decode cX8_countBySeconds 23 = .ok (.istore_n 2, 1) := by decide +kernel
theorem dX8_countBySeconds_24 : decode cX8_countBySeconds 24 = .ok (.iconst 0, 1) := by decide +kernel
theorem dX8_countBySeconds_25 : decode cX8_countBySeconds 25 = .ok (.istore_n 3, 1) := by decide +kernel
theorem dX8_countBySeconds_26 : decode cX8_countBySeconds 26 = .ok (.iload_n 3, 1) := by decide +kernel
theorem dX8_countBySeconds_27 : decode cX8_countBySeconds 27 = .ok (.iload_n 1, 1) := by decide +kernel
theorem dX8_countBySeconds_28 : decode cX8_countBySeconds 28 = .ok (.if_icmp .ge 69, 3) := by decide +kernel
theorem dX8_countBySeconds_31 : decode cX8_countBySeconds 31 = .ok (.aload_n 0, 1) := by decide +kernel
theorem dX8_countBySeconds_32 : decode cX8_countBySeconds 32 = .ok (.getfield 44, 3) := by decide +kernel
theorem dX8_countBySeconds_35 : decode cX8_countBySeconds 35 = .ok (.iconst 1, 1) := by decide +kernel
theorem dX8_countBySeconds_36 : decode cX8_countBySeconds 36 = .ok (.invokevirtual 115, 3) := by decide +kernel
theorem dX8_countBySeconds_39 : decode cX8_countBySeconds 39 = .ok (.istore 4, 2) := by decide +kernel
theorem dX8_countBySeconds_41 : decode cX8_countBySeconds 41 = .ok (.iconst 0, 1) := by decide +kernel
theorem dX8_countBySeconds_42 : decode cX8_countBySeconds 42 = .ok (.istore 5, 2) := by decide +kernel
theorem dX8_countBySeconds_44 : decode cX8_countBySeconds 44 = .ok (.iload 5, 2) := by decide +kernel
theorem dX8_countBySeconds_46 : decode cX8_countBySeconds 46 = .ok (.iload 4, 2) := by decide +kernel
theorem dX8_countBySeconds_48 : decode cX8_countBySeconds 48 = .ok (.if_icmp .ge 43, 3) := by decide +kernel
theorem dX8_countBySeconds_51 : decode cX8_countBySeconds 51 = .ok (.aload_n 0, 1) := by decide +kernel
theorem dX8_countBySeconds_52 : decode cX8_countBySeconds 52 = .ok (.getfield 47, 3) := by decide +kernel
theorem dX8_countBySeconds_55 : decode cX8_countBySeconds 55 = .ok (.iconst 1, 1) := by decide +kernel
theorem dX8_countBySeconds_56 : decode cX8_countBySeconds 56 = .ok (.invokevirtual 322, 3) := by decide +kernel
theorem dX8_countBySeconds_59 : decode cX8_countBySeconds 59 = .ok (.iload_n 2, 1) := by decide +kernel
theorem dX8_countBySeconds_60 : decode cX8_countBySeconds 60 = .ok (.aload_n 0, 1) := by decide +kernel
theorem dX8_countBySeconds_61 : decode cX8_countBySeconds 61 = .ok (.getfield 47, 3) := by decide +kernel
theorem dX8_countBySeconds_64 : decode cX8_countBySeconds 64 = .ok (.invokevirtual 325, 3) := by decide +kernel
theorem dX8_countBySeconds_67 : decode cX8_countBySeconds 67 = .ok (.ifCond .eq 15, 3) := by decide +kernel
theorem dX8_countBySeconds_70 : decode cX8_countBySeconds 70 = .ok (.aload_n 0, 1) := by decide +kernel
theorem dX8_countBySeconds_71 : decode cX8_countBySeconds 71 = .ok (.aload_n 0, 1) := by decide +kernel
theorem dX8_countBySeconds_72 : decode cX8_countBySeconds 72 = .ok (.getfield 47, 3) := by decide +kernel
theorem dX8_countBySeconds_75 : decode cX8_countBySeconds 75 = .ok (.iconst 0, 1) := by decide +kernel
theorem dX8_countBySeconds_76 : decode cX8_countBySeconds 76 = .ok (.invokevirtual 328, 3) := by decide +kernel
theorem dX8_countBySeconds_79 : decode cX8_countBySeconds 79 = .ok (.goto 4, 3) := by decide +kernel
theorem dX8_countBySeconds_82 : decode cX8_countBySeconds 82 = .ok (.iconst 0, 1) := by decide +kernel
theorem dX8_countBySeconds_83 : decode cX8_countBySeconds 83 = .ok (.iadd, 1) := by decide +kernel
theorem dX8_countBySeconds_84 : decode cX8_countBySeconds 84 = .ok (.istore_n 2, 1) := by decide +kernel
theorem dX8_countBySeconds_85 : decode cX8_countBySeconds 85 = .ok (.iinc 5 1, 3) := by decide +kernel
theorem dX8_countBySeconds_88 : decode cX8_countBySeconds 88 = .ok (.goto (-44), 3) := by decide +kernel
theorem dX8_countBySeconds_91 : decode cX8_countBySeconds 91 = .ok (.iinc 3 1, 3) := by decide +kernel
theorem dX8_countBySeconds_94 : decode cX8_countBySeconds 94 = .ok (.goto (-68), 3) := by decide +kernel
theorem dX8_countBySeconds_97 : decode cX8_countBySeconds 97 = .ok (.iload_n 2, 1) := by decide +kernel
theorem dX8_countBySeconds_98 : decode cX8_countBySeconds 98 = .ok (.ireturn, 1) := by decide +kernel
theorem dX8_goByMinutes_0 : decode cX8_goByMinutes 0 = .ok (.iconst 0, 1) := by decide +kernel
theorem dX8_goByMinutes_1 : decode cX8_goByMinutes 1 = .ok (.istore 4, 2) := by decide +kernel
theorem dX8_goByMinutes_3 : decode cX8_goByMinutes 3 = .ok (.iload_n 2, 1) := by decide +kernel
theorem dX8_goByMinutes_4 : decode cX8_goByMinutes 4 = .ok (.istore 5, 2) := by decide +kernel
theorem dX8_goByMinutes_6 : decode cX8_goByMinutes 6 = .ok (.iload 5, 2) := by decide +kernel
theorem dX8_goByMinutes_8 : decode cX8_goByMinutes 8 = .ok (.ifCond .le 56, 3) := by decide +kernel
theorem dX8_goByMinutes_11 : decode cX8_goByMinutes 11 = .ok (.iconst 1, 1) := by decide +kernel
theorem dX8_goByMinutes_12 : decode cX8_goByMinutes 12 = .ok (.iload 5, 2) := by decide +kernel
theorem dX8_goByMinutes_14 : decode cX8_goByMinutes 14 = .ok (.aload_n 1, 1) := by decide +kernel
theorem dX8_goByMinutes_15 : decode cX8_goByMinutes 15 = .ok (.invokevirtual 332, 3) := by decide +kernel
theorem dX8_goByMinutes_18 : decode cX8_goByMinutes 18 = .ok (.invokestatic 335, 3) := by decide +kernel
theorem dX8_goByMinutes_21 : decode cX8_goByMinutes 21 = .ok (.invokestatic 338, 3) := by decide +kernel
theorem dX8_goByMinutes_24 : decode cX8_goByMinutes 24 = .ok (.istore 6, 2) := by decide +kernel
theorem dX8_goByMinutes_26 : decode cX8_goByMinutes 26 = .ok (.aload_n 1, 1) := by decide +kernel
theorem dX8_goByMinutes_27 : decode cX8_goByMinutes 27 = .ok (.iload 6, 2) := by decide +kernel
theorem dX8_goByMinutes_29 : decode cX8_goByMinutes 29 = .ok (.invokevirtual 322, 3) := by decide +kernel
theorem dX8_goByMinutes_32 : decode cX8_goByMinutes 32 = .ok (.iload 4, 2) := by decide +kernel
theorem dX8_goByMinutes_34 : decode cX8_goByMinutes 34 = .ok (.aload_n 1, 1) := by decide +kernel
theorem dX8_goByMinutes_35 : decode cX8_goByMinutes 35 = .ok (.invokevirtual 325, 3) := by decide +kernel
theorem dX8_goByMinutes_38 : decode cX8_goByMinutes 38 = .ok (.ifCond .eq 12, 3) := by decide +kernel
theorem dX8_goByMinutes_41 : decode cX8_goByMinutes 41 = .ok (.aload_n 0, 1) := by decide +kernel
theorem dX8_goByMinutes_42 : decode cX8_goByMinutes 42 = .ok (.aload_n 1, 1) := by decide +kernel
theorem dX8_goByMinutes_43 : decode cX8_goByMinutes 43 = .ok (.iload_n 3, 1) := by decide +kernel
theorem dX8_goByMinutes_44 : decode cX8_goByMinutes 44 = .ok (.invokevirtual 328, 3) := by decide +kernel
theorem dX8_goByMinutes_47 : decode cX8_goByMinutes 47 = .ok (.goto 4, 3) := by decide +kernel
theorem dX8_goByMinutes_50 : decode cX8_goByMinutes 50 = .ok (.iconst 0, 1) := by decide +kernel
theorem dX8_goByMinutes_51 : decode cX8_goByMinutes 51 = .ok (.iadd, 1) := by decide +kernel
theorem dX8_goByMinutes_52 : decode cX8_goByMinutes 52 = .ok (.istore 4, 2) := by decide +kernel
theorem dX8_goByMinutes_54 : decode cX8_goByMinutes 54 = .ok (.iload 5, 2) := by decide +kernel
theorem dX8_goByMinutes_56 : decode cX8_goByMinutes 56 = .ok (.iload 6, 2) := by decide +kernel
theorem dX8_goByMinutes_58 : decode cX8_goByMinutes 58 = .ok (.isub, 1) := by decide +kernel
theorem dX8_goByMinutes_59 : decode cX8_goByMinutes 59 = .ok (.istore 5, 2) := by decide +kernel
theorem dX8_goByMinutes_61 : decode cX8_goByMinutes 61 = .ok (.goto (-55), 3) := by decide +kernel
theorem dX8_goByMinutes_64 : decode cX8_goByMinutes 64 = .ok (.iload 4, 2) := by decide +kernel
theorem dX8_goByMinutes_66 : decode cX8_goByMinutes 66 = .ok (.ireturn, 1) := by decide +kernel
theorem dX8_comeToFullMinute_0 : decode cX8_comeToFullMinute 0 = .ok (.iconst 0, 1) := by decide +kernel
theorem dX8_comeToFullMinute_1 : decode cX8_comeToFullMinute 1 = .ok (.istore_n 3, 1) := by decide +kernel
theorem dX8_comeToFullMinute_2 : decode cX8_comeToFullMinute 2 = .ok (.aload_n 1, 1) := by decide +kernel
theorem dX8_comeToFullMinute_3 : decode cX8_comeToFullMinute 3 = .ok (.invokevirtual 341, 3) := by decide +kernel
theorem dX8_comeToFullMinute_6 : decode cX8_comeToFullMinute 6 = .ok (.ifCond .eq 27, 3) := by decide +kernel
theorem dX8_comeToFullMinute_9 : decode cX8_comeToFullMinute 9 = .ok (.iload_n 2, 1) := by decide +kernel
theorem dX8_comeToFullMinute_10 : decode cX8_comeToFullMinute 10 = .ok (.ifCond .eq 11, 3) := by decide +kernel
theorem dX8_comeToFullMinute_13 : decode cX8_comeToFullMinute 13 = .ok (.aload_n 0, 1) := by decide +kernel
theorem dX8_comeToFullMinute_14 : decode cX8_comeToFullMinute 14 = .ok (.aload_n 1, 1) := by decide +kernel
theorem dX8_comeToFullMinute_15 : decode cX8_comeToFullMinute 15 = .ok (.invokevirtual 344, 3) := by decide +kernel
theorem dX8_comeToFullMinute_18 : decode cX8_comeToFullMinute 18 = .ok (.goto 14, 3) := by decide +kernel
theorem dX8_comeToFullMinute_21 : decode cX8_comeToFullMinute 21 = .ok (.aload_n 0, 1) := by decide +kernel
theorem dX8_comeToFullMinute_22 : decode cX8_comeToFullMinute 22 = .ok (.getfield 33, 3) := by decide +kernel
theorem dX8_comeToFullMinute_25 : decode cX8_comeToFullMinute 25 = .ok (.aload_n 1, 1) := by decide +kernel
theorem dX8_comeToFullMinute_26 : decode cX8_comeToFullMinute 26 = .ok (.invokevirtual 123, 3) := by decide +kernel
theorem dX8_comeToFullMinute_29 : decode cX8_comeToFullMinute 29 = .ok (.invokevirtual 348, 3) := by decide +kernel
theorem dX8_comeToFullMinute_32 : decode cX8_comeToFullMinute 32 = .ok (.istore_n 3, 1) := by decide +kernel
theorem dX8_comeToFullMinute_33 : decode cX8_comeToFullMinute 33 = .ok (.aload_n 1, 1) := by decide +kernel
theorem dX8_comeToFullMinute_34 : decode cX8_comeToFullMinute 34 = .ok (.invokevirtual 351, 3) := by decide +kernel
theorem dX8_comeToFullMinute_37 : decode cX8_comeToFullMinute 37 = .ok (.iload_n 3, 1) := by decide +kernel
theorem dX8_comeToFullMinute_38 : decode cX8_comeToFullMinute 38 = .ok (.ireturn, 1) := by decide +kernel
theorem dX8_strike_0 : decode cX8_strike 0 = .ok (.aload_n 0, 1) := by decide +kernel
theorem dX8_strike_1 : decode cX8_strike 1 = .ok (.getfield 33, 3) := by decide +kernel
theorem dX8_strike_4 : decode cX8_strike 4 = .ok (.aload_n 1, 1) := by decide +kernel
theorem dX8_strike_5 : decode cX8_strike 5 = .ok (.invokevirtual 123, 3) := by decide +kernel
theorem dX8_strike_8 : decode cX8_strike 8 = .ok (.invokevirtual 348, 3) := by decide +kernel
theorem dX8_strike_11 : decode cX8_strike 11 = .ok (.istore_n 2, 1) := by decide +kernel
theorem dX8_strike_12 : decode cX8_strike 12 = .ok (.iload_n 2, 1) := by decide +kernel
theorem dX8_strike_13 : decode cX8_strike 13 = .ok (.ifCond .le 26, 3) := by decide +kernel
theorem dX8_strike_16 : decode cX8_strike 16 = .ok (.aload_n 0, 1) := by decide +kernel
theorem dX8_strike_17 : decode cX8_strike 17 = .ok (.getfield 33, 3) := by decide +kernel
theorem dX8_strike_20 : decode cX8_strike 20 = .ok (.aload_n 1, 1) := by decide +kernel
theorem dX8_strike_21 : decode cX8_strike 21 = .ok (.invokevirtual 123, 3) := by decide +kernel
theorem dX8_strike_24 : decode cX8_strike 24 = .ok (.invokevirtual 354, 3) := by decide +kernel
theorem dX8_strike_27 : decode cX8_strike 27 = .ok (.aload_n 0, 1) := by decide +kernel
theorem dX8_strike_28 : decode cX8_strike 28 = .ok (.getfield 40, 3) := by decide +kernel
theorem dX8_strike_31 : decode cX8_strike 31 = .ok (.aload_n 1, 1) := by decide +kernel
theorem dX8_strike_32 : decode cX8_strike 32 = .ok (.invokevirtual 272, 3) := by decide +kernel
theorem dX8_strike_35 : decode cX8_strike 35 = .ok (.iload_n 2, 1) := by decide +kernel
theorem dX8_strike_36 : decode cX8_strike 36 = .ok (.invokevirtual 357, 3) := by decide +kernel
theorem dX8_strike_39 : decode cX8_strike 39 = .ok (.iload_n 2, 1) := by decide +kernel
theorem dX8_strike_40 : decode cX8_strike 40 = .ok (.ireturn, 1) := by decide +kernel
theorem dJ5_init_d00df_0 : decode cJ5_init_d00df 0 = .ok (.aload_n 0, 1) := by decide +kernel
theorem dJ5_init_d00df_1 : decode cJ5_init_d00df 1 = .ok (.invokespecial 3, 3) := by decide +kernel
theorem dJ5_init_d00df_4 : decode cJ5_init_d00df 4 = .ok (.getstatic 18, 3) := by decide +kernel
theorem dJ5_init_d00df_7 : decode cJ5_init_d00df 7 = .ok (.ifCond .eq 18, 3) := by decide +kernel
theorem dJ5_init_d00df_10 : decode cJ5_init_d00df 10 = .ok (.aload_n 0, 1) := by decide +kernel
theorem dJ5_init_d00df_11 : decode cJ5_init_d00df 11 = .ok (.iload_n 1, 1) := by decide +kernel
theorem dJ5_init_d00df_12 : decode cJ5_init_d00df 12 = .ok (.newarray .byte, 2) := by decide +kernel
theorem dJ5_init_d00df_14 : decode cJ5_init_d00df 14 = .ok (.putfield 15, 3) := by decide +kernel
theorem dJ5_init_d00df_17 : decode cJ5_init_d00df 17 = .ok (.aload_n 0, 1) := by decide +kernel
theorem dJ5_init_d00df_18 : decode cJ5_init_d00df 18 = .ok (.iconst 0, 1) := by decide +kernel
theorem dJ5_init_d00df_19 : decode cJ5_init_d00df 19 = .ok (.putfield 22, 3) := by decide +kernel
theorem dJ5_init_d00df_22 : decode cJ5_init_d00df 22 = .ok (.goto 16, 3) := by decide +kernel
theorem dJ5_init_d00df_25 : decode cJ5_init_d00df 25 = .ok (.aload_n 0, 1) := by decide +kernel
theorem dJ5_init_d00df_26 : decode cJ5_init_d00df 26 = .ok (.iload_n 1, 1) := by decide +kernel
theorem dJ5_init_d00df_27 : decode cJ5_init_d00df 27 = .ok (.invokestatic 26, 3) := by decide +kernel
theorem dJ5_init_d00df_30 : decode cJ5_init_d00df 30 = .ok (.putfield 15, 3) := by decide +kernel
theorem dJ5_init_d00df_33 : decode cJ5_init_d00df 33 = .ok (.aload_n 0, 1) := by decide +kernel
theorem dJ5_init_d00df_34 : decode cJ5_init_d00df 34 = .ok (.iconst 1, 1) := by decide +kernel
theorem dJ5_init_d00df_35 : decode cJ5_init_d00df 35 = .ok (.putfield 22, 3) := by decide +kernel
theorem dJ5_init_d00df_38 : decode cJ5_init_d00df 38 = .ok (.return_, 1) := by decide +kernel
theorem dJ5_length_8abf5_0 : decode cJ5_length_8abf5 0 = .ok (.aload_n 0, 1) := by decide +kernel
theorem dJ5_length_8abf5_1 : decode cJ5_length_8abf5 1 = .ok (.getfield 79, 3) := by decide +kernel
theorem dJ5_length_8abf5_4 : decode cJ5_length_8abf5 4 = .ok (.ireturn, 1) := by decide +kernel
theorem dJ5_ensureCapacityInternal_d00df_0 : decode cJ5_ensureCapacityInternal_d00df 0 = .ok (.aload_n 0, 1) := by decide +kernel
theorem dJ5_ensureCapacityInternal_d00df_1 : decode cJ5_ensureCapacityInternal_d00df 1 = .ok (.getfield 15, 3) := by decide +kernel
theorem dJ5_ensureCapacityInternal_d00df_4 : decode cJ5_ensureCapacityInternal_d00df 4 = .ok (.arraylength, 1) := by decide +kernel
theorem dJ5_ensureCapacityInternal_d00df_5 : decode cJ5_ensureCapacityInternal_d00df 5 = .ok (.aload_n 0, 1) := by decide +kernel
theorem dJ5_ensureCapacityInternal_d00df_6 : decode cJ5_ensureCapacityInternal_d00df 6 = .ok (.getfield 22, 3) := by decide +kernel
theorem dJ5_ensureCapacityInternal_d00df_9 : decode cJ5_ensureCapacityInternal_d00df 9 = .ok (.ishr, 1) := by decide +kernel
theorem dJ5_ensureCapacityInternal_d00df_10 : decode cJ5_ensureCapacityInternal_d00df 10 = .ok (.istore_n 2, 1) := by decide +kernel
theorem dJ5_ensureCapacityInternal_d00df_11 : decode cJ5_ensureCapacityInternal_d00df 11 = .ok (.iload_n 1, 1) := by decide +kernel
theorem dJ5_ensureCapacityInternal_d00df_12 : decode cJ5_ensureCapacityInternal_d00df 12 = .ok (.iload_n 2, 1) := by decide +kernel
theorem dJ5_ensureCapacityInternal_d00df_13 : decode cJ5_ensureCapacityInternal_d00df 13 = .ok (.isub, 1) := by decide +kernel
theorem dJ5_ensureCapacityInternal_d00df_14 : decode cJ5_ensureCapacityInternal_d00df 14 = .ok (.ifCond .le 24, 3) := by decide +kernel
theorem dJ5_ensureCapacityInternal_d00df_17 : decode cJ5_ensureCapacityInternal_d00df 17 = .ok (.aload_n 0, 1) := by decide +kernel
theorem dJ5_ensureCapacityInternal_d00df_18 : decode cJ5_ensureCapacityInternal_d00df 18 = .ok (.aload_n 0, 1) := by decide +kernel
theorem dJ5_ensureCapacityInternal_d00df_19 : decode cJ5_ensureCapacityInternal_d00df 19 = .ok (.getfield 15, 3) := by decide +kernel
theorem dJ5_ensureCapacityInternal_d00df_22 : decode cJ5_ensureCapacityInternal_d00df 22 = .ok (.aload_n 0, 1) := by decide +kernel
theorem dJ5_ensureCapacityInternal_d00df_23 : decode cJ5_ensureCapacityInternal_d00df 23 = .ok (.iload_n 1, 1) := by decide +kernel
theorem dJ5_ensureCapacityInternal_d00df_24 : decode cJ5_ensureCapacityInternal_d00df 24 = .ok (.invokevirtual 104, 3) := by decide +kernel
theorem dJ5_ensureCapacityInternal_d00df_27 : decode cJ5_ensureCapacityInternal_d00df 27 = .ok (.aload_n 0, 1) := by decide +kernel
theorem dJ5_ensureCapacityInternal_d00df_28 : decode cJ5_ensureCapacityInternal_d00df 28 = .ok (.getfield 22, 3) := by decide +kernel
theorem dJ5_ensureCapacityInternal_d00df_31 : decode cJ5_ensureCapacityInternal_d00df 31 = .ok (.ishl, 1) := by decide +kernel
theorem dJ5_ensureCapacityInternal_d00df_32 : decode cJ5_ensureCapacityInternal_d00df 32 = .ok (.invokestatic 108, 3) := by decide +kernel
theorem dJ5_ensureCapacityInternal_d00df_35 : decode cJ5_ensureCapacityInternal_d00df 35 = .ok (.putfield 15, 3) := by decide +kernel
theorem dJ5_ensureCapacityInternal_d00df_38 : decode cJ5_ensureCapacityInternal_d00df 38 = .ok (.return_, 1) := by decide +kernel
theorem dJ5_newCapacity_0f7a4_0 : decode cJ5_newCapacity_0f7a4 0 = .ok (.aload_n 0, 1) := by decide +kernel
theorem dJ5_newCapacity_0f7a4_1 : decode cJ5_newCapacity_0f7a4 1 = .ok (.getfield 15, 3) := by decide +kernel
theorem dJ5_newCapacity_0f7a4_4 : decode cJ5_newCapacity_0f7a4 4 = .ok (.arraylength, 1) := by decide +kernel
theorem dJ5_newCapacity_0f7a4_5 : decode cJ5_newCapacity_0f7a4 5 = .ok (.istore_n 2, 1) := by decide +kernel
theorem dJ5_newCapacity_0f7a4_6 : decode cJ5_newCapacity_0f7a4 6 = .ok (.iload_n 1, 1) := by decide +kernel
theorem dJ5_newCapacity_0f7a4_7 : decode cJ5_newCapacity_0f7a4 7 = .ok (.aload_n 0, 1) := by decide +kernel
theorem dJ5_newCapacity_0f7a4_8 : decode cJ5_newCapacity_0f7a4 8 = .ok (.getfield 22, 3) := by decide +kernel
theorem dJ5_newCapacity_0f7a4_11 : decode cJ5_newCapacity_0f7a4 11 = .ok (.ishl, 1) := by decide +kernel
theorem dJ5_newCapacity_0f7a4_12 : decode cJ5_newCapacity_0f7a4 12 = .ok (.istore_n 3, 1) := by decide +kernel
theorem dJ5_newCapacity_0f7a4_13 : decode cJ5_newCapacity_0f7a4 13 = .ok (.iload_n 3, 1) := by decide +kernel
theorem dJ5_newCapacity_0f7a4_14 : decode cJ5_newCapacity_0f7a4 14 = .ok (.iload_n 2, 1) := by decide +kernel
theorem dJ5_newCapacity_0f7a4_15 : decode cJ5_newCapacity_0f7a4 15 = .ok (.isub, 1) := by decide +kernel
theorem dJ5_newCapacity_0f7a4_16 : decode cJ5_newCapacity_0f7a4 16 = .ok (.istore 4, 2) := by decide +kernel
theorem dJ5_newCapacity_0f7a4_18 : decode cJ5_newCapacity_0f7a4 18 = .ok (.iload_n 2, 1) := by decide +kernel
theorem dJ5_newCapacity_0f7a4_19 : decode cJ5_newCapacity_0f7a4 19 = .ok (.iload 4, 2) := by decide +kernel
theorem dJ5_newCapacity_0f7a4_21 : decode cJ5_newCapacity_0f7a4 21 = .ok (.iload_n 2, 1) := by decide +kernel
theorem dJ5_newCapacity_0f7a4_22 : decode cJ5_newCapacity_0f7a4 22 = .ok (.iconst 2, 1) := by decide +kernel
theorem dJ5_newCapacity_0f7a4_23 : decode cJ5_newCapacity_0f7a4 23 = .ok (.aload_n 0, 1) := by decide +kernel
theorem dJ5_newCapacity_0f7a4_24 : decode cJ5_newCapacity_0f7a4 24 = .ok (.getfield 22, 3) := by decide +kernel
theorem dJ5_newCapacity_0f7a4_27 : decode cJ5_newCapacity_0f7a4 27 = .ok (.ishl, 1) := by decide +kernel
theorem dJ5_newCapacity_0f7a4_28 : decode cJ5_newCapacity_0f7a4 28 = .ok (.iadd, 1) := by decide +kernel
theorem dJ5_newCapacity_0f7a4_29 : decode cJ5_newCapacity_0f7a4 29 = .ok (.invokestatic 114, 3) := by decide +kernel
theorem dJ5_newCapacity_0f7a4_32 : decode cJ5_newCapacity_0f7a4 32 = .ok (.istore 5, 2) := by decide +kernel
theorem dJ5_newCapacity_0f7a4_34 : decode cJ5_newCapacity_0f7a4 34 = .ok (.iload 5, 2) := by decide +kernel
theorem dJ5_newCapacity_0f7a4_36 : decode cJ5_newCapacity_0f7a4 36 = .ok (.ldc 39, 2) := by decide +kernel
theorem dJ5_newCapacity_0f7a4_38 : decode cJ5_newCapacity_0f7a4 38 = .ok (.if_icmp .ne 13, 3) := by decide +kernel
theorem dJ5_newCapacity_0f7a4_41 : decode cJ5_newCapacity_0f7a4 41 = .ok (.new 120, 3) := by decide +kernel
theorem dJ5_newCapacity_0f7a4_44 : decode cJ5_newCapacity_0f7a4 44 = .ok (.dup, 1) := by decide +kernel
theorem dJ5_newCapacity_0f7a4_45 : decode cJ5_newCapacity_0f7a4 45 = .ok (.ldc 122, 2) := by decide +kernel
theorem dJ5_newCapacity_0f7a4_47 : decode cJ5_newCapacity_0f7a4 47 = .ok (.invokespecial 124, 3) := by decide +kernel
theorem dJ5_newCapacity_0f7a4_50 : decode cJ5_newCapacity_0f7a4 50 = .ok (.athrow, 1) := by decide +kernel
theorem dJ5_newCapacity_0f7a4_51 : decode cJ5_newCapacity_0f7a4 51 = .ok (.iload 5, 2) := by decide +kernel
theorem dJ5_newCapacity_0f7a4_53 : decode cJ5_newCapacity_0f7a4 53 = .ok (.aload_n 0, 1) := by decide +kernel
theorem dJ5_newCapacity_0f7a4_54 : decode cJ5_newCapacity_0f7a4 54 = .ok (.getfield 22, 3) := by decide +kernel
theorem dJ5_newCapacity_0f7a4_57 : decode cJ5_newCapacity_0f7a4 57 = .ok (.ishr, 1) := by decide +kernel
theorem dJ5_newCapacity_0f7a4_58 : decode cJ5_newCapacity_0f7a4 58 = .ok (.ireturn, 1) := by decide +kernel
theorem dJ5_inflate_da8c8_0 : decode cJ5_inflate_da8c8 0 = .ok (.aload_n 0, 1) := by decide +kernel
theorem dJ5_inflate_da8c8_1 : decode cJ5_inflate_da8c8 1 = .ok (.invokevirtual 83, 3) := by decide +kernel
theorem dJ5_inflate_da8c8_4 : decode cJ5_inflate_da8c8 4 = .ok (.ifCond .ne 4, 3) := by decide +kernel
theorem dJ5_inflate_da8c8_7 : decode cJ5_inflate_da8c8 7 = .ok (.return_, 1) := by decide +kernel
theorem dJ5_inflate_da8c8_8 : decode cJ5_inflate_da8c8 8 = .ok (.aload_n 0, 1) := by decide +kernel
theorem dJ5_inflate_da8c8_9 : decode cJ5_inflate_da8c8 9 = .ok (.getfield 15, 3) := by decide +kernel
theorem dJ5_inflate_da8c8_12 : decode cJ5_inflate_da8c8 12 = .ok (.arraylength, 1) := by decide +kernel
theorem dJ5_inflate_da8c8_13 : decode cJ5_inflate_da8c8 13 = .ok (.invokestatic 26, 3) := by decide +kernel
theorem dJ5_inflate_da8c8_16 : decode cJ5_inflate_da8c8 16 = .ok (.astore_n 1, 1) := by decide +kernel
theorem dJ5_inflate_da8c8_17 : decode cJ5_inflate_da8c8 17 = .ok (.aload_n 0, 1) := by decide +kernel
theorem dJ5_inflate_da8c8_18 : decode cJ5_inflate_da8c8 18 = .ok (.getfield 15, 3) := by decide +kernel
theorem dJ5_inflate_da8c8_21 : decode cJ5_inflate_da8c8 21 = .ok (.iconst 0, 1) := by decide +kernel
theorem dJ5_inflate_da8c8_22 : decode cJ5_inflate_da8c8 22 = .ok (.aload_n 1, 1) := by decide +kernel
theorem dJ5_inflate_da8c8_23 : decode cJ5_inflate_da8c8 23 = .ok (.iconst 0, 1) := by decide +kernel
theorem dJ5_inflate_da8c8_24 : decode cJ5_inflate_da8c8 24 = .ok (.aload_n 0, 1) := by decide +kernel
theorem dJ5_inflate_da8c8_25 : decode cJ5_inflate_da8c8 25 = .ok (.getfield 79, 3) := by decide +kernel
theorem dJ5_inflate_da8c8_28 : decode cJ5_inflate_da8c8 28 = .ok (.invokestatic 125, 3) := by decide +kernel
theorem dJ5_inflate_da8c8_31 : decode cJ5_inflate_da8c8 31 = .ok (.aload_n 0, 1) := by decide +kernel
theorem dJ5_inflate_da8c8_32 : decode cJ5_inflate_da8c8 32 = .ok (.aload_n 1, 1) := by decide +kernel
theorem dJ5_inflate_da8c8_33 : decode cJ5_inflate_da8c8 33 = .ok (.putfield 15, 3) := by decide +kernel
theorem dJ5_inflate_da8c8_36 : decode cJ5_inflate_da8c8 36 = .ok (.aload_n 0, 1) := by decide +kernel
theorem dJ5_inflate_da8c8_37 : decode cJ5_inflate_da8c8 37 = .ok (.iconst 1, 1) := by decide +kernel
theorem dJ5_inflate_da8c8_38 : decode cJ5_inflate_da8c8 38 = .ok (.putfield 22, 3) := by decide +kernel
theorem dJ5_inflate_da8c8_41 : decode cJ5_inflate_da8c8 41 = .ok (.return_, 1) := by decide +kernel
theorem dJ5_charAt_5068e_0 : decode cJ5_charAt_5068e 0 = .ok (.aload_n 0, 1) := by decide +kernel
theorem dJ5_charAt_5068e_1 : decode cJ5_charAt_5068e 1 = .ok (.getfield 22, 3) := by decide +kernel
theorem dJ5_charAt_5068e_4 : decode cJ5_charAt_5068e 4 = .ok (.istore_n 2, 1) := by decide +kernel
theorem dJ5_charAt_5068e_5 : decode cJ5_charAt_5068e 5 = .ok (.aload_n 0, 1) := by decide +kernel
theorem dJ5_charAt_5068e_6 : decode cJ5_charAt_5068e 6 = .ok (.getfield 15, 3) := by decide +kernel
theorem dJ5_charAt_5068e_9 : decode cJ5_charAt_5068e 9 = .ok (.astore_n 3, 1) := by decide +kernel
theorem dJ5_charAt_5068e_10 : decode cJ5_charAt_5068e 10 = .ok (.aload_n 0, 1) := by decide +kernel
theorem dJ5_charAt_5068e_11 : decode cJ5_charAt_5068e 11 = .ok (.getfield 79, 3) := by decide +kernel
theorem dJ5_charAt_5068e_14 : decode cJ5_charAt_5068e 14 = .ok (.aload_n 3, 1) := by decide +kernel
theorem dJ5_charAt_5068e_15 : decode cJ5_charAt_5068e 15 = .ok (.arraylength, 1) := by decide +kernel
theorem dJ5_charAt_5068e_16 : decode cJ5_charAt_5068e 16 = .ok (.iload_n 2, 1) := by decide +kernel
theorem dJ5_charAt_5068e_17 : decode cJ5_charAt_5068e 17 = .ok (.ishr, 1) := by decide +kernel
theorem dJ5_charAt_5068e_18 : decode cJ5_charAt_5068e 18 = .ok (.invokestatic 138, 3) := by decide +kernel
theorem dJ5_charAt_5068e_21 : decode cJ5_charAt_5068e 21 = .ok (.istore 4, 2) := by decide +kernel
theorem dJ5_charAt_5068e_23 : decode cJ5_charAt_5068e 23 = .ok (.iload_n 1, 1) := by decide +kernel
theorem dJ5_charAt_5068e_24 : decode cJ5_charAt_5068e 24 = .ok (.iload 4, 2) := by decide +kernel
theorem dJ5_charAt_5068e_26 : decode cJ5_charAt_5068e 26 = .ok (.invokestatic 144, 3) := by decide +kernel
theorem dJ5_charAt_5068e_29 : decode cJ5_charAt_5068e 29 = .ok (.iload_n 2, 1) := by decide +kernel
theorem dJ5_charAt_5068e_30 : decode cJ5_charAt_5068e 30 = .ok (.ifCond .ne 12, 3) := by decide +kernel
theorem dJ5_charAt_5068e_33 : decode cJ5_charAt_5068e 33 = .ok (.aload_n 3, 1) := by decide +kernel
theorem dJ5_charAt_5068e_34 : decode cJ5_charAt_5068e 34 = .ok (.iload_n 1, 1) := by decide +kernel
theorem dJ5_charAt_5068e_35 : decode cJ5_charAt_5068e 35 = .ok (.baload, 1) := by decide +kernel
theorem dJ5_charAt_5068e_36 : decode cJ5_charAt_5068e 36 = .ok (.sipush 255, 3) := by decide +kernel
theorem dJ5_charAt_5068e_39 : decode cJ5_charAt_5068e 39 = .ok (.iand, 1) := by decide +kernel
theorem dJ5_charAt_5068e_40 : decode cJ5_charAt_5068e 40 = .ok (.i2c, 1) := by decide +kernel
theorem dJ5_charAt_5068e_41 : decode cJ5_charAt_5068e 41 = .ok (.ireturn, 1) := by decide +kernel
theorem dJ5_charAt_5068e_42 : decode cJ5_charAt_5068e 42 = .ok (.aload_n 3, 1) := by decide +kernel
theorem dJ5_charAt_5068e_43 : decode cJ5_charAt_5068e 43 = .ok (.iload_n 1, 1) := by decide +kernel
theorem dJ5_charAt_5068e_44 : decode cJ5_charAt_5068e 44 = .ok (.invokestatic 148, 3) := by decide +kernel
theorem dJ5_charAt_5068e_47 : decode cJ5_charAt_5068e 47 = .ok (.ireturn, 1) := by decide +kernel
theorem dJ5_append_cf1ce_0 : decode cJ5_append_cf1ce 0 = .ok (.aload_n 1, 1) := by decide +kernel
theorem dJ5_append_cf1ce_1 : decode cJ5_append_cf1ce 1 = .ok (.ifnonnull 8, 3) := by decide +kernel
theorem dJ5_append_cf1ce_4 : decode cJ5_append_cf1ce 4 = .ok (.aload_n 0, 1) := by decide +kernel
theorem dJ5_append_cf1ce_5 : decode cJ5_append_cf1ce 5 = .ok (.invokevirtual 204, 3) := by decide +kernel
theorem dJ5_append_cf1ce_8 : decode cJ5_append_cf1ce 8 = .ok (.areturn, 1) := by decide +kernel
theorem dJ5_append_cf1ce_9 : decode cJ5_append_cf1ce 9 = .ok (.aload_n 1, 1) := by decide +kernel
theorem dJ5_append_cf1ce_10 : decode cJ5_append_cf1ce 10 = .ok (.invokevirtual 32, 3) := by decide +kernel
theorem dJ5_append_cf1ce_13 : decode cJ5_append_cf1ce 13 = .ok (.istore_n 2, 1) := by decide +kernel
theorem dJ5_append_cf1ce_14 : decode cJ5_append_cf1ce 14 = .ok (.aload_n 0, 1) := by decide +kernel
theorem dJ5_append_cf1ce_15 : decode cJ5_append_cf1ce 15 = .ok (.aload_n 0, 1) := by decide +kernel
theorem dJ5_append_cf1ce_16 : decode cJ5_append_cf1ce 16 = .ok (.getfield 79, 3) := by decide +kernel
theorem dJ5_append_cf1ce_19 : decode cJ5_append_cf1ce 19 = .ok (.iload_n 2, 1) := by decide +kernel
theorem dJ5_append_cf1ce_20 : decode cJ5_append_cf1ce 20 = .ok (.iadd, 1) := by decide +kernel
theorem dJ5_append_cf1ce_21 : decode cJ5_append_cf1ce 21 = .ok (.invokevirtual 100, 3) := by decide +kernel
theorem dJ5_append_cf1ce_24 : decode cJ5_append_cf1ce 24 = .ok (.aload_n 0, 1) := by decide +kernel
theorem dJ5_append_cf1ce_25 : decode cJ5_append_cf1ce 25 = .ok (.aload_n 0, 1) := by decide +kernel
theorem dJ5_append_cf1ce_26 : decode cJ5_append_cf1ce 26 = .ok (.getfield 79, 3) := by decide +kernel
theorem dJ5_append_cf1ce_29 : decode cJ5_append_cf1ce 29 = .ok (.aload_n 1, 1) := by decide +kernel
theorem dJ5_append_cf1ce_30 : decode cJ5_append_cf1ce 30 = .ok (.invokevirtual 208, 3) := by decide +kernel
theorem dJ5_append_cf1ce_33 : decode cJ5_append_cf1ce 33 = .ok (.aload_n 0, 1) := by decide +kernel
theorem dJ5_append_cf1ce_34 : decode cJ5_append_cf1ce 34 = .ok (.dup, 1) := by decide +kernel
theorem dJ5_append_cf1ce_35 : decode cJ5_append_cf1ce 35 = .ok (.getfield 79, 3) := by decide +kernel
theorem dJ5_append_cf1ce_38 : decode cJ5_append_cf1ce 38 = .ok (.iload_n 2, 1) := by decide +kernel
theorem dJ5_append_cf1ce_39 : decode cJ5_append_cf1ce 39 = .ok (.iadd, 1) := by decide +kernel
theorem dJ5_append_cf1ce_40 : decode cJ5_append_cf1ce 40 = .ok (.putfield 79, 3) := by decide +kernel
theorem dJ5_append_cf1ce_43 : decode cJ5_append_cf1ce 43 = .ok (.aload_n 0, 1) := by decide +kernel
theorem dJ5_append_cf1ce_44 : decode cJ5_append_cf1ce 44 = .ok (.areturn, 1) := by decide +kernel
theorem dJ5_append_2ceeb_0 : decode cJ5_append_2ceeb 0 = .ok (.aload_n 1, 1) := by decide +kernel
theorem dJ5_append_2ceeb_1 : decode cJ5_append_2ceeb 1 = .ok (.ifnonnull 8, 3) := by decide +kernel
theorem dJ5_append_2ceeb_4 : decode cJ5_append_2ceeb 4 = .ok (.aload_n 0, 1) := by decide +kernel
theorem dJ5_append_2ceeb_5 : decode cJ5_append_2ceeb 5 = .ok (.invokevirtual 204, 3) := by decide +kernel
theorem dJ5_append_2ceeb_8 : decode cJ5_append_2ceeb 8 = .ok (.areturn, 1) := by decide +kernel
theorem dJ5_append_2ceeb_9 : decode cJ5_append_2ceeb 9 = .ok (.aload_n 1, 1) := by decide +kernel
theorem dJ5_append_2ceeb_10 : decode cJ5_append_2ceeb 10 = .ok (.invokevirtual 160, 3) := by decide +kernel
theorem dJ5_append_2ceeb_13 : decode cJ5_append_2ceeb 13 = .ok (.istore_n 2, 1) := by decide +kernel
theorem dJ5_append_2ceeb_14 : decode cJ5_append_2ceeb 14 = .ok (.aload_n 0, 1) := by decide +kernel
theorem dJ5_append_2ceeb_15 : decode cJ5_append_2ceeb 15 = .ok (.aload_n 0, 1) := by decide +kernel
theorem dJ5_append_2ceeb_16 : decode cJ5_append_2ceeb 16 = .ok (.getfield 79, 3) := by decide +kernel
theorem dJ5_append_2ceeb_19 : decode cJ5_append_2ceeb 19 = .ok (.iload_n 2, 1) := by decide +kernel
theorem dJ5_append_2ceeb_20 : decode cJ5_append_2ceeb 20 = .ok (.iadd, 1) := by decide +kernel
theorem dJ5_append_2ceeb_21 : decode cJ5_append_2ceeb 21 = .ok (.invokevirtual 100, 3) := by decide +kernel
theorem dJ5_append_2ceeb_24 : decode cJ5_append_2ceeb 24 = .ok (.aload_n 0, 1) := by decide +kernel
theorem dJ5_append_2ceeb_25 : decode cJ5_append_2ceeb 25 = .ok (.aload_n 1, 1) := by decide +kernel
theorem dJ5_append_2ceeb_26 : decode cJ5_append_2ceeb 26 = .ok (.invokevirtual 215, 3) := by decide +kernel
theorem dJ5_append_2ceeb_29 : decode cJ5_append_2ceeb 29 = .ok (.aload_n 1, 1) := by decide +kernel
theorem dJ5_append_2ceeb_30 : decode cJ5_append_2ceeb 30 = .ok (.aload_n 0, 1) := by decide +kernel
theorem dJ5_append_2ceeb_31 : decode cJ5_append_2ceeb 31 = .ok (.getfield 15, 3) := by decide +kernel
theorem dJ5_append_2ceeb_34 : decode cJ5_append_2ceeb 34 = .ok (.aload_n 0, 1) := by decide +kernel
theorem dJ5_append_2ceeb_35 : decode cJ5_append_2ceeb 35 = .ok (.getfield 79, 3) := by decide +kernel
theorem dJ5_append_2ceeb_38 : decode cJ5_append_2ceeb 38 = .ok (.aload_n 0, 1) := by decide +kernel
theorem dJ5_append_2ceeb_39 : decode cJ5_append_2ceeb 39 = .ok (.getfield 22, 3) := by decide +kernel
theorem dJ5_append_2ceeb_42 : decode cJ5_append_2ceeb 42 = .ok (.invokevirtual 219, 3) := by decide +kernel
theorem dJ5_append_2ceeb_45 : decode cJ5_append_2ceeb 45 = .ok (.aload_n 0, 1) := by decide +kernel
theorem dJ5_append_2ceeb_46 : decode cJ5_append_2ceeb 46 = .ok (.dup, 1) := by decide +kernel
theorem dJ5_append_2ceeb_47 : decode cJ5_append_2ceeb 47 = .ok (.getfield 79, 3) := by decide +kernel
theorem dJ5_append_2ceeb_50 : decode cJ5_append_2ceeb 50 = .ok (.iload_n 2, 1) := by decide +kernel
theorem dJ5_append_2ceeb_51 : decode cJ5_append_2ceeb 51 = .ok (.iadd, 1) := by decide +kernel
theorem dJ5_append_2ceeb_52 : decode cJ5_append_2ceeb 52 = .ok (.putfield 79, 3) := by decide +kernel
theorem dJ5_append_2ceeb_55 : decode cJ5_append_2ceeb 55 = .ok (.aload_n 0, 1) := by decide +kernel
theorem dJ5_append_2ceeb_56 : decode cJ5_append_2ceeb 56 = .ok (.dup, 1) := by decide +kernel
theorem dJ5_append_2ceeb_57 : decode cJ5_append_2ceeb 57 = .ok (.getfield 73, 3) := by decide +kernel
theorem dJ5_append_2ceeb_60 : decode cJ5_append_2ceeb 60 = .ok (.aload_n 1, 1) := by decide +kernel
theorem dJ5_append_2ceeb_61 : decode cJ5_append_2ceeb 61 = .ok (.getfield 73, 3) := by decide +kernel
theorem dJ5_append_2ceeb_64 : decode cJ5_append_2ceeb 64 = .ok (.ior, 1) := by decide +kernel
theorem dJ5_append_2ceeb_65 : decode cJ5_append_2ceeb 65 = .ok (.putfield 73, 3) := by decide +kernel
theorem dJ5_append_2ceeb_68 : decode cJ5_append_2ceeb 68 = .ok (.aload_n 0, 1) := by decide +kernel
theorem dJ5_append_2ceeb_69 : decode cJ5_append_2ceeb 69 = .ok (.areturn, 1) := by decide +kernel
theorem dJ5_append_8f9a3_0 : decode cJ5_append_8f9a3 0 = .ok (.aload_n 1, 1) := by decide +kernel
theorem dJ5_append_8f9a3_1 : decode cJ5_append_8f9a3 1 = .ok (.ifnonnull 8, 3) := by decide +kernel
theorem dJ5_append_8f9a3_4 : decode cJ5_append_8f9a3 4 = .ok (.aload_n 0, 1) := by decide +kernel
theorem dJ5_append_8f9a3_5 : decode cJ5_append_8f9a3 5 = .ok (.invokevirtual 204, 3) := by decide +kernel
theorem dJ5_append_8f9a3_8 : decode cJ5_append_8f9a3 8 = .ok (.areturn, 1) := by decide +kernel
theorem dJ5_append_8f9a3_9 : decode cJ5_append_8f9a3 9 = .ok (.aload_n 1, 1) := by decide +kernel
theorem dJ5_append_8f9a3_10 : decode cJ5_append_8f9a3 10 = .ok (.instanceof 1, 3) := by decide +kernel
theorem dJ5_append_8f9a3_13 : decode cJ5_append_8f9a3 13 = .ok (.ifCond .eq 12, 3) := by decide +kernel
theorem dJ5_append_8f9a3_16 : decode cJ5_append_8f9a3 16 = .ok (.aload_n 0, 1) := by decide +kernel
theorem dJ5_append_8f9a3_17 : decode cJ5_append_8f9a3 17 = .ok (.aload_n 1, 1) := by decide +kernel
theorem dJ5_append_8f9a3_18 : decode cJ5_append_8f9a3 18 = .ok (.checkcast 1, 3) := by decide +kernel
theorem dJ5_append_8f9a3_21 : decode cJ5_append_8f9a3 21 = .ok (.invokevirtual 43, 3) := by decide +kernel
theorem dJ5_append_8f9a3_24 : decode cJ5_append_8f9a3 24 = .ok (.areturn, 1) := by decide +kernel
theorem dJ5_append_8f9a3_25 : decode cJ5_append_8f9a3 25 = .ok (.aload_n 1, 1) := by decide +kernel
theorem dJ5_append_8f9a3_26 : decode cJ5_append_8f9a3 26 = .ok (.instanceof 10, 3) := by decide +kernel
theorem dJ5_append_8f9a3_29 : decode cJ5_append_8f9a3 29 = .ok (.ifCond .eq 12, 3) := by decide +kernel
theorem dJ5_append_8f9a3_32 : decode cJ5_append_8f9a3 32 = .ok (.aload_n 0, 1) := by decide +kernel
theorem dJ5_append_8f9a3_33 : decode cJ5_append_8f9a3 33 = .ok (.aload_n 1, 1) := by decide +kernel
theorem dJ5_append_8f9a3_34 : decode cJ5_append_8f9a3 34 = .ok (.checkcast 10, 3) := by decide +kernel
theorem dJ5_append_8f9a3_37 : decode cJ5_append_8f9a3 37 = .ok (.invokevirtual 212, 3) := by decide +kernel
theorem dJ5_append_8f9a3_40 : decode cJ5_append_8f9a3 40 = .ok (.areturn, 1) := by decide +kernel
theorem dJ5_append_8f9a3_41 : decode cJ5_append_8f9a3 41 = .ok (.aload_n 0, 1) := by decide +kernel
theorem dJ5_append_8f9a3_42 : decode cJ5_append_8f9a3 42 = .ok (.aload_n 1, 1) := by decide +kernel
theorem dJ5_append_8f9a3_43 : decode cJ5_append_8f9a3 43 = .ok (.iconst 0, 1) := by decide +kernel
theorem dJ5_append_8f9a3_44 : decode cJ5_append_8f9a3 44 = .ok (.aload_n 1, 1) := by decide +kernel
theorem dJ5_append_8f9a3_45 : decode cJ5_append_8f9a3 45 = .ok (.invokeinterface 47 1, 5) := by decide +kernel
theorem dJ5_append_8f9a3_50 : decode cJ5_append_8f9a3 50 = .ok (.invokevirtual 223, 3) := by decide +kernel
theorem dJ5_append_8f9a3_53 : decode cJ5_append_8f9a3 53 = .ok (.areturn, 1) := by decide +kernel
theorem dJ5_appendNull_278bc_0 : decode cJ5_appendNull_278bc 0 = .ok (.aload_n 0, 1) := by decide +kernel
theorem dJ5_appendNull_278bc_1 : decode cJ5_appendNull_278bc 1 = .ok (.aload_n 0, 1) := by decide +kernel
theorem dJ5_appendNull_278bc_2 : decode cJ5_appendNull_278bc 2 = .ok (.getfield 79, 3) := by decide +kernel
theorem dJ5_appendNull_278bc_5 : decode cJ5_appendNull_278bc 5 = .ok (.iconst 4, 1) := by decide +kernel
theorem dJ5_appendNull_278bc_6 : decode cJ5_appendNull_278bc 6 = .ok (.iadd, 1) := by decide +kernel
theorem dJ5_appendNull_278bc_7 : decode cJ5_appendNull_278bc 7 = .ok (.invokevirtual 100, 3) := by decide +kernel
theorem dJ5_appendNull_278bc_10 : decode cJ5_appendNull_278bc 10 = .ok (.aload_n 0, 1) := by decide +kernel
theorem dJ5_appendNull_278bc_11 : decode cJ5_appendNull_278bc 11 = .ok (.getfield 79, 3) := by decide +kernel
theorem dJ5_appendNull_278bc_14 : decode cJ5_appendNull_278bc 14 = .ok (.istore_n 1, 1) := by decide +kernel
theorem dJ5_appendNull_278bc_15 : decode cJ5_appendNull_278bc 15 = .ok (.aload_n 0, 1) := by decide +kernel
theorem dJ5_appendNull_278bc_16 : decode cJ5_appendNull_278bc 16 = .ok (.getfield 15, 3) := by decide +kernel
theorem dJ5_appendNull_278bc_19 : decode cJ5_appendNull_278bc 19 = .ok (.astore_n 2, 1) := by decide +kernel
theorem dJ5_appendNull_278bc_20 : decode cJ5_appendNull_278bc 20 = .ok (.aload_n 0, 1) := by decide +kernel
theorem dJ5_appendNull_278bc_21 : decode cJ5_appendNull_278bc 21 = .ok (.invokevirtual 83, 3) := by decide +kernel
theorem dJ5_appendNull_278bc_24 : decode cJ5_appendNull_278bc 24 = .ok (.ifCond .eq 38, 3) := by decide +kernel
theorem dJ5_appendNull_278bc_27 : decode cJ5_appendNull_278bc 27 = .ok (.aload_n 2, 1) := by decide +kernel
theorem dJ5_appendNull_278bc_28 : decode cJ5_appendNull_278bc 28 = .ok (.iload_n 1, 1) := by decide +kernel
theorem dJ5_appendNull_278bc_29 : decode cJ5_appendNull_278bc 29 = .ok (.iinc 1 1, 3) := by decide +kernel
theorem dJ5_appendNull_278bc_32 : decode cJ5_appendNull_278bc 32 = .ok (.bipush 110, 2) := by decide +kernel
theorem dJ5_appendNull_278bc_34 : decode cJ5_appendNull_278bc 34 = .ok (.bastore, 1) := by decide +kernel
theorem dJ5_appendNull_278bc_35 : decode cJ5_appendNull_278bc 35 = .ok (.aload_n 2, 1) := by decide +kernel
theorem dJ5_appendNull_278bc_36 : decode cJ5_appendNull_278bc 36 = .ok (.iload_n 1, 1) := by decide +kernel
theorem dJ5_appendNull_278bc_37 : decode cJ5_appendNull_278bc 37 = .ok (.iinc 1 1, 3) := by decide +kernel
theorem dJ5_appendNull_278bc_40 : decode cJ5_appendNull_278bc 40 = .ok (.bipush 117, 2) := by decide +kernel
theorem dJ5_appendNull_278bc_42 : decode cJ5_appendNull_278bc 42 = .ok (.bastore, 1) := by decide +kernel
theorem dJ5_appendNull_278bc_43 : decode cJ5_appendNull_278bc 43 = .ok (.aload_n 2, 1) := by decide +kernel
theorem dJ5_appendNull_278bc_44 : decode cJ5_appendNull_278bc 44 = .ok (.iload_n 1, 1) := by decide +kernel
theorem dJ5_appendNull_278bc_45 : decode cJ5_appendNull_278bc 45 = .ok (.iinc 1 1, 3) := by decide +kernel
theorem dJ5_appendNull_278bc_48 : decode cJ5_appendNull_278bc 48 = .ok (.bipush 108, 2) := by decide +kernel
theorem dJ5_appendNull_278bc_50 : decode cJ5_appendNull_278bc 50 = .ok (.bastore, 1) := by decide +kernel
theorem dJ5_appendNull_278bc_51 : decode cJ5_appendNull_278bc 51 = .ok (.aload_n 2, 1) := by decide +kernel
theorem dJ5_appendNull_278bc_52 : decode cJ5_appendNull_278bc 52 = .ok (.iload_n 1, 1) := by decide +kernel
theorem dJ5_appendNull_278bc_53 : decode cJ5_appendNull_278bc 53 = .ok (.iinc 1 1, 3) := by decide +kernel
theorem dJ5_appendNull_278bc_56 : decode cJ5_appendNull_278bc 56 = .ok (.bipush 108, 2) := by decide +kernel
theorem dJ5_appendNull_278bc_58 : decode cJ5_appendNull_278bc 58 = .ok (.bastore, 1) := by decide +kernel
theorem dJ5_appendNull_278bc_59 : decode cJ5_appendNull_278bc 59 = .ok (.goto 17, 3) := by decide +kernel
theorem dJ5_appendNull_278bc_62 : decode cJ5_appendNull_278bc 62 = .ok (.aload_n 2, 1) := by decide +kernel
theorem dJ5_appendNull_278bc_63 : decode cJ5_appendNull_278bc 63 = .ok (.iload_n 1, 1) := by decide +kernel
theorem dJ5_appendNull_278bc_64 : decode cJ5_appendNull_278bc 64 = .ok (.bipush 110, 2) := by decide +kernel
theorem dJ5_appendNull_278bc_66 : decode cJ5_appendNull_278bc 66 = .ok (.bipush 117, 2) := by decide +kernel
theorem dJ5_appendNull_278bc_68 : decode cJ5_appendNull_278bc 68 = .ok (.bipush 108, 2) := by decide +kernel
theorem dJ5_appendNull_278bc_70 : decode cJ5_appendNull_278bc 70 = .ok (.bipush 108, 2) := by decide +kernel
theorem dJ5_appendNull_278bc_72 : decode cJ5_appendNull_278bc 72 = .ok (.invokestatic 226, 3) := by decide +kernel
theorem dJ5_appendNull_278bc_75 : decode cJ5_appendNull_278bc 75 = .ok (.istore_n 1, 1) := by decide +kernel
theorem dJ5_appendNull_278bc_76 : decode cJ5_appendNull_278bc 76 = .ok (.aload_n 0, 1) := by decide +kernel
theorem dJ5_appendNull_278bc_77 : decode cJ5_appendNull_278bc 77 = .ok (.iload_n 1, 1) := by decide +kernel
theorem dJ5_appendNull_278bc_78 : decode cJ5_appendNull_278bc 78 = .ok (.putfield 79, 3) := by decide +kernel
theorem dJ5_appendNull_278bc_81 : decode cJ5_appendNull_278bc 81 = .ok (.aload_n 0, 1) := by decide +kernel
theorem dJ5_appendNull_278bc_82 : decode cJ5_appendNull_278bc 82 = .ok (.areturn, 1) := by decide +kernel
theorem dJ5_append_e1f22_0 : decode cJ5_append_e1f22 0 = .ok (.aload_n 1, 1) := by decide +kernel
theorem dJ5_append_e1f22_1 : decode cJ5_append_e1f22 1 = .ok (.ifnonnull 6, 3) := by decide +kernel
theorem dJ5_append_e1f22_4 : decode cJ5_append_e1f22 4 = .ok (.ldc 230, 2) := by decide +kernel
theorem dJ5_append_e1f22_6 : decode cJ5_append_e1f22 6 = .ok (.astore_n 1, 1) := by decide +kernel
theorem dJ5_append_e1f22_7 : decode cJ5_append_e1f22 7 = .ok (.iload_n 2, 1) := by decide +kernel
theorem dJ5_append_e1f22_8 : decode cJ5_append_e1f22 8 = .ok (.iload_n 3, 1) := by decide +kernel
theorem dJ5_append_e1f22_9 : decode cJ5_append_e1f22 9 = .ok (.aload_n 1, 1) := by decide +kernel
theorem dJ5_append_e1f22_10 : decode cJ5_append_e1f22 10 = .ok (.invokeinterface 47 1, 5) := by decide +kernel
theorem dJ5_append_e1f22_15 : decode cJ5_append_e1f22 15 = .ok (.getstatic 183, 3) := by decide +kernel
theorem dJ5_append_e1f22_18 : decode cJ5_append_e1f22 18 = .ok (.invokestatic 161, 3) := by decide +kernel
theorem dJ5_append_e1f22_21 : decode cJ5_append_e1f22 21 = .ok (.pop, 1) := by decide +kernel
theorem dJ5_append_e1f22_22 : decode cJ5_append_e1f22 22 = .ok (.iload_n 3, 1) := by decide +kernel
theorem dJ5_append_e1f22_23 : decode cJ5_append_e1f22 23 = .ok (.iload_n 2, 1) := by decide +kernel
theorem dJ5_append_e1f22_24 : decode cJ5_append_e1f22 24 = .ok (.isub, 1) := by decide +kernel
theorem dJ5_append_e1f22_25 : decode cJ5_append_e1f22 25 = .ok (.istore 4, 2) := by decide +kernel
theorem dJ5_append_e1f22_27 : decode cJ5_append_e1f22 27 = .ok (.aload_n 0, 1) := by decide +kernel
theorem dJ5_append_e1f22_28 : decode cJ5_append_e1f22 28 = .ok (.aload_n 0, 1) := by decide +kernel
theorem dJ5_append_e1f22_29 : decode cJ5_append_e1f22 29 = .ok (.getfield 79, 3) := by decide +kernel
theorem dJ5_append_e1f22_32 : decode cJ5_append_e1f22 32 = .ok (.iload 4, 2) := by decide +kernel
theorem dJ5_append_e1f22_34 : decode cJ5_append_e1f22 34 = .ok (.iadd, 1) := by decide +kernel
theorem dJ5_append_e1f22_35 : decode cJ5_append_e1f22 35 = .ok (.invokevirtual 100, 3) := by decide +kernel
theorem dJ5_append_e1f22_38 : decode cJ5_append_e1f22 38 = .ok (.aload_n 1, 1) := by decide +kernel
theorem dJ5_append_e1f22_39 : decode cJ5_append_e1f22 39 = .ok (.instanceof 1, 3) := by decide +kernel
theorem dJ5_append_e1f22_42 : decode cJ5_append_e1f22 42 = .ok (.ifCond .eq 16, 3) := by decide +kernel
theorem dJ5_append_e1f22_45 : decode cJ5_append_e1f22 45 = .ok (.aload_n 0, 1) := by decide +kernel
theorem dJ5_append_e1f22_46 : decode cJ5_append_e1f22 46 = .ok (.aload_n 1, 1) := by decide +kernel
theorem dJ5_append_e1f22_47 : decode cJ5_append_e1f22 47 = .ok (.checkcast 1, 3) := by decide +kernel
theorem dJ5_append_e1f22_50 : decode cJ5_append_e1f22 50 = .ok (.iload_n 2, 1) := by decide +kernel
theorem dJ5_append_e1f22_51 : decode cJ5_append_e1f22 51 = .ok (.iload_n 3, 1) := by decide +kernel
theorem dJ5_append_e1f22_52 : decode cJ5_append_e1f22 52 = .ok (.invokevirtual 232, 3) := by decide +kernel
theorem dJ5_append_e1f22_55 : decode cJ5_append_e1f22 55 = .ok (.goto 10, 3) := by decide +kernel
theorem dJ5_append_e1f22_58 : decode cJ5_append_e1f22 58 = .ok (.aload_n 0, 1) := by decide +kernel
theorem dJ5_append_e1f22_59 : decode cJ5_append_e1f22 59 = .ok (.aload_n 1, 1) := by decide +kernel
theorem dJ5_append_e1f22_60 : decode cJ5_append_e1f22 60 = .ok (.iload_n 2, 1) := by decide +kernel
theorem dJ5_append_e1f22_61 : decode cJ5_append_e1f22 61 = .ok (.iload_n 3, 1) := by decide +kernel
theorem dJ5_append_e1f22_62 : decode cJ5_append_e1f22 62 = .ok (.invokevirtual 236, 3) := by decide +kernel
theorem dJ5_append_e1f22_65 : decode cJ5_append_e1f22 65 = .ok (.aload_n 0, 1) := by decide +kernel
theorem dJ5_append_e1f22_66 : decode cJ5_append_e1f22 66 = .ok (.areturn, 1) := by decide +kernel
theorem dJ5_append_a1634_0 : decode cJ5_append_a1634 0 = .ok (.aload_n 1, 1) := by decide +kernel
theorem dJ5_append_a1634_1 : decode cJ5_append_a1634 1 = .ok (.arraylength, 1) := by decide +kernel
theorem dJ5_append_a1634_2 : decode cJ5_append_a1634 2 = .ok (.istore_n 2, 1) := by decide +kernel
theorem dJ5_append_a1634_3 : decode cJ5_append_a1634 3 = .ok (.aload_n 0, 1) := by decide +kernel
theorem dJ5_append_a1634_4 : decode cJ5_append_a1634 4 = .ok (.aload_n 0, 1) := by decide +kernel
theorem dJ5_append_a1634_5 : decode cJ5_append_a1634 5 = .ok (.getfield 79, 3) := by decide +kernel
theorem dJ5_append_a1634_8 : decode cJ5_append_a1634 8 = .ok (.iload_n 2, 1) := by decide +kernel
theorem dJ5_append_a1634_9 : decode cJ5_append_a1634 9 = .ok (.iadd, 1) := by decide +kernel
theorem dJ5_append_a1634_10 : decode cJ5_append_a1634 10 = .ok (.invokevirtual 100, 3) := by decide +kernel
theorem dJ5_append_a1634_13 : decode cJ5_append_a1634 13 = .ok (.aload_n 0, 1) := by decide +kernel
theorem dJ5_append_a1634_14 : decode cJ5_append_a1634 14 = .ok (.aload_n 1, 1) := by decide +kernel
theorem dJ5_append_a1634_15 : decode cJ5_append_a1634 15 = .ok (.iconst 0, 1) := by decide +kernel
theorem dJ5_append_a1634_16 : decode cJ5_append_a1634 16 = .ok (.iload_n 2, 1) := by decide +kernel
theorem dJ5_append_a1634_17 : decode cJ5_append_a1634 17 = .ok (.invokevirtual 239, 3) := by decide +kernel
theorem dJ5_append_a1634_20 : decode cJ5_append_a1634 20 = .ok (.aload_n 0, 1) := by decide +kernel
theorem dJ5_append_a1634_21 : decode cJ5_append_a1634 21 = .ok (.areturn, 1) := by decide +kernel
theorem dJ5_append_3fe6f_0 : decode cJ5_append_3fe6f 0 = .ok (.aload_n 0, 1) := by decide +kernel
theorem dJ5_append_3fe6f_1 : decode cJ5_append_3fe6f 1 = .ok (.aload_n 0, 1) := by decide +kernel
theorem dJ5_append_3fe6f_2 : decode cJ5_append_3fe6f 2 = .ok (.getfield 79, 3) := by decide +kernel
theorem dJ5_append_3fe6f_5 : decode cJ5_append_3fe6f 5 = .ok (.iconst 1, 1) := by decide +kernel
theorem dJ5_append_3fe6f_6 : decode cJ5_append_3fe6f 6 = .ok (.iadd, 1) := by decide +kernel
theorem dJ5_append_3fe6f_7 : decode cJ5_append_3fe6f 7 = .ok (.invokevirtual 100, 3) := by decide +kernel
theorem dJ5_append_3fe6f_10 : decode cJ5_append_3fe6f 10 = .ok (.aload_n 0, 1) := by decide +kernel
theorem dJ5_append_3fe6f_11 : decode cJ5_append_3fe6f 11 = .ok (.invokevirtual 83, 3) := by decide +kernel
theorem dJ5_append_3fe6f_14 : decode cJ5_append_3fe6f 14 = .ok (.ifCond .eq 31, 3) := by decide +kernel
theorem dJ5_append_3fe6f_17 : decode cJ5_append_3fe6f 17 = .ok (.iload_n 1, 1) := by decide +kernel
theorem dJ5_append_3fe6f_18 : decode cJ5_append_3fe6f 18 = .ok (.invokestatic 191, 3) := by decide +kernel
theorem dJ5_append_3fe6f_21 : decode cJ5_append_3fe6f 21 = .ok (.ifCond .eq 24, 3) := by decide +kernel
theorem dJ5_append_3fe6f_24 : decode cJ5_append_3fe6f 24 = .ok (.aload_n 0, 1) := by decide +kernel
theorem dJ5_append_3fe6f_25 : decode cJ5_append_3fe6f 25 = .ok (.getfield 15, 3) := by decide +kernel
theorem dJ5_append_3fe6f_28 : decode cJ5_append_3fe6f 28 = .ok (.aload_n 0, 1) := by decide +kernel
theorem dJ5_append_3fe6f_29 : decode cJ5_append_3fe6f 29 = .ok (.dup, 1) := by decide +kernel
theorem dJ5_append_3fe6f_30 : decode cJ5_append_3fe6f 30 = .ok (.getfield 79, 3) := by decide +kernel
theorem dJ5_append_3fe6f_33 : decode cJ5_append_3fe6f 33 = .ok (.dup_x1, 1) := by decide +kernel
theorem dJ5_append_3fe6f_34 : decode cJ5_append_3fe6f 34 = .ok (.iconst 1, 1) := by decide +kernel
theorem dJ5_append_3fe6f_35 : decode cJ5_append_3fe6f 35 = .ok (.iadd, 1) := by decide +kernel
theorem dJ5_append_3fe6f_36 : decode cJ5_append_3fe6f 36 = .ok (.putfield 79, 3) := by decide +kernel
theorem dJ5_append_3fe6f_39 : decode cJ5_append_3fe6f 39 = .ok (.iload_n 1, 1) := by decide +kernel
theorem dJ5_append_3fe6f_40 : decode cJ5_append_3fe6f 40 = .ok (.i2b, 1) := by decide +kernel
theorem dJ5_append_3fe6f_41 : decode cJ5_append_3fe6f 41 = .ok (.bastore, 1) := by decide +kernel
theorem dJ5_append_3fe6f_42 : decode cJ5_append_3fe6f 42 = .ok (.goto 33, 3) := by decide +kernel
theorem dJ5_append_3fe6f_45 : decode cJ5_append_3fe6f 45 = .ok (.aload_n 0, 1) := by decide +kernel
theorem dJ5_append_3fe6f_46 : decode cJ5_append_3fe6f 46 = .ok (.invokevirtual 83, 3) := by decide +kernel
theorem dJ5_append_3fe6f_49 : decode cJ5_append_3fe6f 49 = .ok (.ifCond .eq 7, 3) := by decide +kernel
theorem dJ5_append_3fe6f_52 : decode cJ5_append_3fe6f 52 = .ok (.aload_n 0, 1) := by decide +kernel
theorem dJ5_append_3fe6f_53 : decode cJ5_append_3fe6f 53 = .ok (.invokevirtual 195, 3) := by decide +kernel
theorem dJ5_append_3fe6f_56 : decode cJ5_append_3fe6f 56 = .ok (.aload_n 0, 1) := by decide +kernel
theorem dJ5_append_3fe6f_57 : decode cJ5_append_3fe6f 57 = .ok (.getfield 15, 3) := by decide +kernel
theorem dJ5_append_3fe6f_60 : decode cJ5_append_3fe6f 60 = .ok (.aload_n 0, 1) := by decide +kernel
theorem dJ5_append_3fe6f_61 : decode cJ5_append_3fe6f 61 = .ok (.dup, 1) := by decide +kernel
theorem dJ5_append_3fe6f_62 : decode cJ5_append_3fe6f 62 = .ok (.getfield 79, 3) := by decide +kernel
theorem dJ5_append_3fe6f_65 : decode cJ5_append_3fe6f 65 = .ok (.dup_x1, 1) := by decide +kernel
theorem dJ5_append_3fe6f_66 : decode cJ5_append_3fe6f 66 = .ok (.iconst 1, 1) := by decide +kernel
theorem dJ5_append_3fe6f_67 : decode cJ5_append_3fe6f 67 = .ok (.iadd, 1) := by decide +kernel
theorem dJ5_append_3fe6f_68 : decode cJ5_append_3fe6f 68 = .ok (.putfield 79, 3) := by decide +kernel
theorem dJ5_append_3fe6f_71 : decode cJ5_append_3fe6f 71 = .ok (.iload_n 1, 1) := by decide +kernel
theorem dJ5_append_3fe6f_72 : decode cJ5_append_3fe6f 72 = .ok (.invokestatic 197, 3) := by decide +kernel
theorem dJ5_append_3fe6f_75 : decode cJ5_append_3fe6f 75 = .ok (.aload_n 0, 1) := by decide +kernel
theorem dJ5_append_3fe6f_76 : decode cJ5_append_3fe6f 76 = .ok (.areturn, 1) := by decide +kernel
theorem dJ5_append_c97b9_0 : decode cJ5_append_c97b9 0 = .ok (.aload_n 0, 1) := by decide +kernel
theorem dJ5_append_c97b9_1 : decode cJ5_append_c97b9 1 = .ok (.getfield 79, 3) := by decide +kernel
theorem dJ5_append_c97b9_4 : decode cJ5_append_c97b9 4 = .ok (.istore_n 2, 1) := by decide +kernel
theorem dJ5_append_c97b9_5 : decode cJ5_append_c97b9 5 = .ok (.iload_n 2, 1) := by decide +kernel
theorem dJ5_append_c97b9_6 : decode cJ5_append_c97b9 6 = .ok (.iload_n 1, 1) := by decide +kernel
theorem dJ5_append_c97b9_7 : decode cJ5_append_c97b9 7 = .ok (.invokestatic 245, 3) := by decide +kernel
theorem dJ5_append_c97b9_10 : decode cJ5_append_c97b9 10 = .ok (.iadd, 1) := by decide +kernel
theorem dJ5_append_c97b9_11 : decode cJ5_append_c97b9 11 = .ok (.istore_n 3, 1) := by decide +kernel
theorem dJ5_append_c97b9_12 : decode cJ5_append_c97b9 12 = .ok (.aload_n 0, 1) := by decide +kernel
theorem dJ5_append_c97b9_13 : decode cJ5_append_c97b9 13 = .ok (.iload_n 3, 1) := by decide +kernel
theorem dJ5_append_c97b9_14 : decode cJ5_append_c97b9 14 = .ok (.invokevirtual 100, 3) := by decide +kernel
theorem dJ5_append_c97b9_17 : decode cJ5_append_c97b9 17 = .ok (.aload_n 0, 1) := by decide +kernel
theorem dJ5_append_c97b9_18 : decode cJ5_append_c97b9 18 = .ok (.invokevirtual 83, 3) := by decide +kernel
theorem dJ5_append_c97b9_21 : decode cJ5_append_c97b9 21 = .ok (.ifCond .eq 16, 3) := by decide +kernel
theorem dJ5_append_c97b9_24 : decode cJ5_append_c97b9 24 = .ok (.iload_n 1, 1) := by decide +kernel
theorem dJ5_append_c97b9_25 : decode cJ5_append_c97b9 25 = .ok (.iload_n 3, 1) := by decide +kernel
theorem dJ5_append_c97b9_26 : decode cJ5_append_c97b9 26 = .ok (.aload_n 0, 1) := by decide +kernel
theorem dJ5_append_c97b9_27 : decode cJ5_append_c97b9 27 = .ok (.getfield 15, 3) := by decide +kernel
theorem dJ5_append_c97b9_30 : decode cJ5_append_c97b9 30 = .ok (.invokestatic 248, 3) := by decide +kernel
theorem dJ5_append_c97b9_33 : decode cJ5_append_c97b9 33 = .ok (.pop, 1) := by decide +kernel
theorem dJ5_append_c97b9_34 : decode cJ5_append_c97b9 34 = .ok (.goto 14, 3) := by decide +kernel
theorem dJ5_append_c97b9_37 : decode cJ5_append_c97b9 37 = .ok (.iload_n 1, 1) := by decide +kernel
theorem dJ5_append_c97b9_38 : decode cJ5_append_c97b9 38 = .ok (.iload_n 2, 1) := by decide +kernel
theorem dJ5_append_c97b9_39 : decode cJ5_append_c97b9 39 = .ok (.iload_n 3, 1) := by decide +kernel
theorem dJ5_append_c97b9_40 : decode cJ5_append_c97b9 40 = .ok (.aload_n 0, 1) := by decide +kernel
theorem dJ5_append_c97b9_41 : decode cJ5_append_c97b9 41 = .ok (.getfield 15, 3) := by decide +kernel
theorem dJ5_append_c97b9_44 : decode cJ5_append_c97b9 44 = .ok (.invokestatic 251, 3) := by decide +kernel
theorem dJ5_append_c97b9_47 : decode cJ5_append_c97b9 47 = .ok (.pop, 1) := by decide +kernel
theorem dJ5_append_c97b9_48 : decode cJ5_append_c97b9 48 = .ok (.aload_n 0, 1) := by decide +kernel
theorem dJ5_append_c97b9_49 : decode cJ5_append_c97b9 49 = .ok (.iload_n 3, 1) := by decide +kernel
theorem dJ5_append_c97b9_50 : decode cJ5_append_c97b9 50 = .ok (.putfield 79, 3) := by decide +kernel
theorem dJ5_append_c97b9_53 : decode cJ5_append_c97b9 53 = .ok (.aload_n 0, 1) := by decide +kernel
theorem dJ5_append_c97b9_54 : decode cJ5_append_c97b9 54 = .ok (.areturn, 1) := by decide +kernel
theorem dJ5_append_66267_0 : decode cJ5_append_66267 0 = .ok (.aload_n 0, 1) := by decide +kernel
theorem dJ5_append_66267_1 : decode cJ5_append_66267 1 = .ok (.getfield 79, 3) := by decide +kernel
theorem dJ5_append_66267_4 : decode cJ5_append_66267 4 = .ok (.istore_n 3, 1) := by decide +kernel
theorem dJ5_append_66267_5 : decode cJ5_append_66267 5 = .ok (.iload_n 3, 1) := by decide +kernel
theorem dJ5_append_66267_6 : decode cJ5_append_66267 6 = .ok (.lload_n 1, 1) := by decide +kernel
theorem dJ5_append_66267_7 : decode cJ5_append_66267 7 = .ok (.invokestatic 254, 3) := by decide +kernel
theorem dJ5_append_66267_10 : decode cJ5_append_66267 10 = .ok (.iadd, 1) := by decide +kernel
theorem dJ5_append_66267_11 : decode cJ5_append_66267 11 = .ok (.istore 4, 2) := by decide +kernel
theorem dJ5_append_66267_13 : decode cJ5_append_66267 13 = .ok (.aload_n 0, 1) := by decide +kernel
theorem dJ5_append_66267_14 : decode cJ5_append_66267 14 = .ok (.iload 4, 2) := by decide +kernel
theorem dJ5_append_66267_16 : decode cJ5_append_66267 16 = .ok (.invokevirtual 100, 3) := by decide +kernel
theorem dJ5_append_66267_19 : decode cJ5_append_66267 19 = .ok (.aload_n 0, 1) := by decide +kernel
theorem dJ5_append_66267_20 : decode cJ5_append_66267 20 = .ok (.invokevirtual 83, 3) := by decide +kernel
theorem dJ5_append_66267_23 : decode cJ5_append_66267 23 = .ok (.ifCond .eq 17, 3) := by decide +kernel
theorem dJ5_append_66267_26 : decode cJ5_append_66267 26 = .ok (.lload_n 1, 1) := by decide +kernel
theorem dJ5_append_66267_27 : decode cJ5_append_66267 27 = .ok (.iload 4, 2) := by decide +kernel
theorem dJ5_append_66267_29 : decode cJ5_append_66267 29 = .ok (.aload_n 0, 1) := by decide +kernel
theorem dJ5_append_66267_30 : decode cJ5_append_66267 30 = .ok (.getfield 15, 3) := by decide +kernel
theorem dJ5_append_66267_33 : decode cJ5_append_66267 33 = .ok (.invokestatic 259, 3) := by decide +kernel
theorem dJ5_append_66267_36 : decode cJ5_append_66267 36 = .ok (.pop, 1) := by decide +kernel
theorem dJ5_append_66267_37 : decode cJ5_append_66267 37 = .ok (.goto 15, 3) := by decide +kernel
theorem dJ5_append_66267_40 : decode cJ5_append_66267 40 = .ok (.lload_n 1, 1) := by decide +kernel
theorem dJ5_append_66267_41 : decode cJ5_append_66267 41 = .ok (.iload_n 3, 1) := by decide +kernel
theorem dJ5_append_66267_42 : decode cJ5_append_66267 42 = .ok (.iload 4, 2) := by decide +kernel
theorem dJ5_append_66267_44 : decode cJ5_append_66267 44 = .ok (.aload_n 0, 1) := by decide +kernel
theorem dJ5_append_66267_45 : decode cJ5_append_66267 45 = .ok (.getfield 15, 3) := by decide +kernel
theorem dJ5_append_66267_48 : decode cJ5_append_66267 48 = .ok (.invokestatic 262, 3) := by decide +kernel
theorem dJ5_append_66267_51 : decode cJ5_append_66267 51 = .ok (.pop, 1) := by decide +kernel
theorem dJ5_append_66267_52 : decode cJ5_append_66267 52 = .ok (.aload_n 0, 1) := by decide +kernel
theorem dJ5_append_66267_53 : decode cJ5_append_66267 53 = .ok (.iload 4, 2) := by decide +kernel
theorem dJ5_append_66267_55 : decode cJ5_append_66267 55 = .ok (.putfield 79, 3) := by decide +kernel
theorem dJ5_append_66267_58 : decode cJ5_append_66267 58 = .ok (.aload_n 0, 1) := by decide +kernel
theorem dJ5_append_66267_59 : decode cJ5_append_66267 59 = .ok (.areturn, 1) := by decide +kernel
theorem dJ5_append_b089e_0 : decode cJ5_append_b089e 0 = .ok (.fload_n 1, 1) := by decide +kernel
theorem dJ5_append_b089e_1 : decode cJ5_append_b089e 1 = .ok (.aload_n 0, 1) := by decide +kernel
theorem dJ5_append_b089e_2 : decode cJ5_append_b089e 2 = .ok (.invokestatic 265, 3) := by decide +kernel
theorem dJ5_append_b089e_5 : decode cJ5_append_b089e 5 = .ok (.pop, 1) := by decide +kernel
theorem dJ5_append_b089e_6 : decode cJ5_append_b089e 6 = .ok (.goto 13, 3) := by decide +kernel
theorem dJ5_append_b089e_9 : decode cJ5_append_b089e 9 = .ok (.astore_n 2, 1) := by decide +kernel
theorem dJ5_append_b089e_10 : decode cJ5_append_b089e 10 = .ok (.new 273, 3) := by decide +kernel
theorem dJ5_append_b089e_13 : decode cJ5_append_b089e 13 = .ok (.dup, 1) := by decide +kernel
theorem dJ5_append_b089e_14 : decode cJ5_append_b089e 14 = .ok (.aload_n 2, 1) := by decide +kernel
theorem dJ5_append_b089e_15 : decode cJ5_append_b089e 15 = .ok (.invokespecial 275, 3) := by decide +kernel
theorem dJ5_append_b089e_18 : decode cJ5_append_b089e 18 = .ok (.athrow, 1) := by decide +kernel
theorem dJ5_append_b089e_19 : decode cJ5_append_b089e 19 = .ok (.aload_n 0, 1) := by decide +kernel
theorem dJ5_append_b089e_20 : decode cJ5_append_b089e 20 = .ok (.areturn, 1) := by decide +kernel
theorem dJ5_getValue_6d5f1_0 : decode cJ5_getValue_6d5f1 0 = .ok (.aload_n 0, 1) := by decide +kernel
theorem dJ5_getValue_6d5f1_1 : decode cJ5_getValue_6d5f1 1 = .ok (.getfield 15, 3) := by decide +kernel
theorem dJ5_getValue_6d5f1_4 : decode cJ5_getValue_6d5f1 4 = .ok (.areturn, 1) := by decide +kernel
theorem dJ5_getBytes_840e7_0 : decode cJ5_getBytes_840e7 0 = .ok (.aload_n 0, 1) := by decide +kernel
theorem dJ5_getBytes_840e7_1 : decode cJ5_getBytes_840e7 1 = .ok (.getfield 22, 3) := by decide +kernel
theorem dJ5_getBytes_840e7_4 : decode cJ5_getBytes_840e7 4 = .ok (.iload_n 3, 1) := by decide +kernel
theorem dJ5_getBytes_840e7_5 : decode cJ5_getBytes_840e7 5 = .ok (.if_icmp .ne 24, 3) := by decide +kernel
theorem dJ5_getBytes_840e7_8 : decode cJ5_getBytes_840e7 8 = .ok (.aload_n 0, 1) := by decide +kernel
theorem dJ5_getBytes_840e7_9 : decode cJ5_getBytes_840e7 9 = .ok (.getfield 15, 3) := by decide +kernel
theorem dJ5_getBytes_840e7_12 : decode cJ5_getBytes_840e7 12 = .ok (.iconst 0, 1) := by decide +kernel
theorem dJ5_getBytes_840e7_13 : decode cJ5_getBytes_840e7 13 = .ok (.aload_n 1, 1) := by decide +kernel
theorem dJ5_getBytes_840e7_14 : decode cJ5_getBytes_840e7 14 = .ok (.iload_n 2, 1) := by decide +kernel
theorem dJ5_getBytes_840e7_15 : decode cJ5_getBytes_840e7 15 = .ok (.iload_n 3, 1) := by decide +kernel
theorem dJ5_getBytes_840e7_16 : decode cJ5_getBytes_840e7 16 = .ok (.ishl, 1) := by decide +kernel
theorem dJ5_getBytes_840e7_17 : decode cJ5_getBytes_840e7 17 = .ok (.aload_n 0, 1) := by decide +kernel
theorem dJ5_getBytes_840e7_18 : decode cJ5_getBytes_840e7 18 = .ok (.getfield 79, 3) := by decide +kernel
theorem dJ5_getBytes_840e7_21 : decode cJ5_getBytes_840e7 21 = .ok (.iload_n 3, 1) := by decide +kernel
theorem dJ5_getBytes_840e7_22 : decode cJ5_getBytes_840e7 22 = .ok (.ishl, 1) := by decide +kernel
theorem dJ5_getBytes_840e7_23 : decode cJ5_getBytes_840e7 23 = .ok (.invokestatic 309, 3) := by decide +kernel
theorem dJ5_getBytes_840e7_26 : decode cJ5_getBytes_840e7 26 = .ok (.goto 17, 3) := by decide +kernel
theorem dJ5_getBytes_840e7_29 : decode cJ5_getBytes_840e7 29 = .ok (.aload_n 0, 1) := by decide +kernel
theorem dJ5_getBytes_840e7_30 : decode cJ5_getBytes_840e7 30 = .ok (.getfield 15, 3) := by decide +kernel
theorem dJ5_getBytes_840e7_33 : decode cJ5_getBytes_840e7 33 = .ok (.iconst 0, 1) := by decide +kernel
theorem dJ5_getBytes_840e7_34 : decode cJ5_getBytes_840e7 34 = .ok (.aload_n 1, 1) := by decide +kernel
theorem dJ5_getBytes_840e7_35 : decode cJ5_getBytes_840e7 35 = .ok (.iload_n 2, 1) := by decide +kernel
theorem dJ5_getBytes_840e7_36 : decode cJ5_getBytes_840e7 36 = .ok (.aload_n 0, 1) := by decide +kernel
theorem dJ5_getBytes_840e7_37 : decode cJ5_getBytes_840e7 37 = .ok (.getfield 79, 3) := by decide +kernel
theorem dJ5_getBytes_840e7_40 : decode cJ5_getBytes_840e7 40 = .ok (.invokestatic 125, 3) := by decide +kernel
theorem dJ5_getBytes_840e7_43 : decode cJ5_getBytes_840e7 43 = .ok (.return_, 1) := by decide +kernel
theorem dJ5_getCoder_7d493_0 : decode cJ5_getCoder_7d493 0 = .ok (.getstatic 18, 3) := by decide +kernel
theorem dJ5_getCoder_7d493_3 : decode cJ5_getCoder_7d493 3 = .ok (.ifCond .eq 10, 3) := by decide +kernel
theorem dJ5_getCoder_7d493_6 : decode cJ5_getCoder_7d493 6 = .ok (.aload_n 0, 1) := by decide +kernel
theorem dJ5_getCoder_7d493_7 : decode cJ5_getCoder_7d493 7 = .ok (.getfield 22, 3) := by decide +kernel
theorem dJ5_getCoder_7d493_10 : decode cJ5_getCoder_7d493 10 = .ok (.goto 4, 3) := by decide +kernel
theorem dJ5_getCoder_7d493_13 : decode cJ5_getCoder_7d493 13 = .ok (.iconst 1, 1) := by decide +kernel
theorem dJ5_getCoder_7d493_14 : decode cJ5_getCoder_7d493 14 = .ok (.ireturn, 1) := by decide +kernel
theorem dJ5_isLatin1_aae02_0 : decode cJ5_isLatin1_aae02 0 = .ok (.getstatic 18, 3) := by decide +kernel
theorem dJ5_isLatin1_aae02_3 : decode cJ5_isLatin1_aae02 3 = .ok (.ifCond .eq 14, 3) := by decide +kernel
theorem dJ5_isLatin1_aae02_6 : decode cJ5_isLatin1_aae02 6 = .ok (.aload_n 0, 1) := by decide +kernel
theorem dJ5_isLatin1_aae02_7 : decode cJ5_isLatin1_aae02 7 = .ok (.getfield 22, 3) := by decide +kernel
theorem dJ5_isLatin1_aae02_10 : decode cJ5_isLatin1_aae02 10 = .ok (.ifCond .ne 7, 3) := by decide +kernel
theorem dJ5_isLatin1_aae02_13 : decode cJ5_isLatin1_aae02 13 = .ok (.iconst 1, 1) := by decide +kernel
theorem dJ5_isLatin1_aae02_14 : decode cJ5_isLatin1_aae02 14 = .ok (.goto 4, 3) := by decide +kernel
theorem dJ5_isLatin1_aae02_17 : decode cJ5_isLatin1_aae02 17 = .ok (.iconst 0, 1) := by decide +kernel
theorem dJ5_isLatin1_aae02_18 : decode cJ5_isLatin1_aae02 18 = .ok (.ireturn, 1) := by decide +kernel
theorem dJ5_inflateIfNeededFor_a7421_0 : decode cJ5_inflateIfNeededFor_a7421 0 = .ok (.getstatic 18, 3) := by decide +kernel
theorem dJ5_inflateIfNeededFor_a7421_3 : decode cJ5_inflateIfNeededFor_a7421 3 = .ok (.ifCond .eq 18, 3) := by decide +kernel
theorem dJ5_inflateIfNeededFor_a7421_6 : decode cJ5_inflateIfNeededFor_a7421 6 = .ok (.aload_n 0, 1) := by decide +kernel
theorem dJ5_inflateIfNeededFor_a7421_7 : decode cJ5_inflateIfNeededFor_a7421 7 = .ok (.getfield 22, 3) := by decide +kernel
theorem dJ5_inflateIfNeededFor_a7421_10 : decode cJ5_inflateIfNeededFor_a7421 10 = .ok (.aload_n 1, 1) := by decide +kernel
theorem dJ5_inflateIfNeededFor_a7421_11 : decode cJ5_inflateIfNeededFor_a7421 11 = .ok (.invokevirtual 40, 3) := by decide +kernel
theorem dJ5_inflateIfNeededFor_a7421_14 : decode cJ5_inflateIfNeededFor_a7421 14 = .ok (.if_icmp .eq 7, 3) := by decide +kernel
theorem dJ5_inflateIfNeededFor_a7421_17 : decode cJ5_inflateIfNeededFor_a7421 17 = .ok (.aload_n 0, 1) := by decide +kernel
theorem dJ5_inflateIfNeededFor_a7421_18 : decode cJ5_inflateIfNeededFor_a7421 18 = .ok (.invokevirtual 195, 3) := by decide +kernel
theorem dJ5_inflateIfNeededFor_a7421_21 : decode cJ5_inflateIfNeededFor_a7421 21 = .ok (.return_, 1) := by decide +kernel
theorem dJ5_inflateIfNeededFor_56e69_0 : decode cJ5_inflateIfNeededFor_56e69 0 = .ok (.getstatic 18, 3) := by decide +kernel
theorem dJ5_inflateIfNeededFor_56e69_3 : decode cJ5_inflateIfNeededFor_56e69 3 = .ok (.ifCond .eq 18, 3) := by decide +kernel
theorem dJ5_inflateIfNeededFor_56e69_6 : decode cJ5_inflateIfNeededFor_56e69 6 = .ok (.aload_n 0, 1) := by decide +kernel
theorem dJ5_inflateIfNeededFor_56e69_7 : decode cJ5_inflateIfNeededFor_56e69 7 = .ok (.getfield 22, 3) := by decide +kernel
theorem dJ5_inflateIfNeededFor_56e69_10 : decode cJ5_inflateIfNeededFor_56e69 10 = .ok (.aload_n 1, 1) := by decide +kernel
theorem dJ5_inflateIfNeededFor_56e69_11 : decode cJ5_inflateIfNeededFor_56e69 11 = .ok (.invokevirtual 70, 3) := by decide +kernel
theorem dJ5_inflateIfNeededFor_56e69_14 : decode cJ5_inflateIfNeededFor_56e69 14 = .ok (.if_icmp .eq 7, 3) := by decide +kernel
theorem dJ5_inflateIfNeededFor_56e69_17 : decode cJ5_inflateIfNeededFor_56e69 17 = .ok (.aload_n 0, 1) := by decide +kernel
theorem dJ5_inflateIfNeededFor_56e69_18 : decode cJ5_inflateIfNeededFor_56e69 18 = .ok (.invokevirtual 195, 3) := by decide +kernel
theorem dJ5_inflateIfNeededFor_56e69_21 : decode cJ5_inflateIfNeededFor_56e69 21 = .ok (.return_, 1) := by decide +kernel
theorem dJ5_putStringAt_47b60_0 : decode cJ5_putStringAt_47b60 0 = .ok (.aload_n 0, 1) := by decide +kernel
theorem dJ5_putStringAt_47b60_1 : decode cJ5_putStringAt_47b60 1 = .ok (.aload_n 2, 1) := by decide +kernel
theorem dJ5_putStringAt_47b60_2 : decode cJ5_putStringAt_47b60 2 = .ok (.invokevirtual 397, 3) := by decide +kernel
theorem dJ5_putStringAt_47b60_5 : decode cJ5_putStringAt_47b60 5 = .ok (.aload_n 2, 1) := by decide +kernel
theorem dJ5_putStringAt_47b60_6 : decode cJ5_putStringAt_47b60 6 = .ok (.aload_n 0, 1) := by decide +kernel
theorem dJ5_putStringAt_47b60_7 : decode cJ5_putStringAt_47b60 7 = .ok (.getfield 15, 3) := by decide +kernel
theorem dJ5_putStringAt_47b60_10 : decode cJ5_putStringAt_47b60 10 = .ok (.iload_n 1, 1) := by decide +kernel
theorem dJ5_putStringAt_47b60_11 : decode cJ5_putStringAt_47b60 11 = .ok (.aload_n 0, 1) := by decide +kernel
theorem dJ5_putStringAt_47b60_12 : decode cJ5_putStringAt_47b60 12 = .ok (.getfield 22, 3) := by decide +kernel
theorem dJ5_putStringAt_47b60_15 : decode cJ5_putStringAt_47b60 15 = .ok (.invokevirtual 399, 3) := by decide +kernel
theorem dJ5_putStringAt_47b60_18 : decode cJ5_putStringAt_47b60 18 = .ok (.return_, 1) := by decide +kernel
theorem dJ5_appendChars_0ad70_0 : decode cJ5_appendChars_0ad70 0 = .ok (.aload_n 0, 1) := by decide +kernel
theorem dJ5_appendChars_0ad70_1 : decode cJ5_appendChars_0ad70 1 = .ok (.getfield 79, 3) := by decide +kernel
theorem dJ5_appendChars_0ad70_4 : decode cJ5_appendChars_0ad70 4 = .ok (.istore 4, 2) := by decide +kernel
theorem dJ5_appendChars_0ad70_6 : decode cJ5_appendChars_0ad70 6 = .ok (.aload_n 0, 1) := by decide +kernel
theorem dJ5_appendChars_0ad70_7 : decode cJ5_appendChars_0ad70 7 = .ok (.invokevirtual 83, 3) := by decide +kernel
theorem dJ5_appendChars_0ad70_10 : decode cJ5_appendChars_0ad70 10 = .ok (.ifCond .eq 97, 3) := by decide +kernel
theorem dJ5_appendChars_0ad70_13 : decode cJ5_appendChars_0ad70 13 = .ok (.aload_n 0, 1) := by decide +kernel
theorem dJ5_appendChars_0ad70_14 : decode cJ5_appendChars_0ad70 14 = .ok (.getfield 15, 3) := by decide +kernel
theorem dJ5_appendChars_0ad70_17 : decode cJ5_appendChars_0ad70 17 = .ok (.astore 5, 2) := by decide +kernel
theorem dJ5_appendChars_0ad70_19 : decode cJ5_appendChars_0ad70 19 = .ok (.iload_n 2, 1) := by decide +kernel
theorem dJ5_appendChars_0ad70_20 : decode cJ5_appendChars_0ad70 20 = .ok (.istore 6, 2) := by decide +kernel
theorem dJ5_appendChars_0ad70_22 : decode cJ5_appendChars_0ad70 22 = .ok (.iload 4, 2) := by decide +kernel
theorem dJ5_appendChars_0ad70_24 : decode cJ5_appendChars_0ad70 24 = .ok (.istore 7, 2) := by decide +kernel
theorem dJ5_appendChars_0ad70_26 : decode cJ5_appendChars_0ad70 26 = .ok (.iload 6, 2) := by decide +kernel
theorem dJ5_appendChars_0ad70_28 : decode cJ5_appendChars_0ad70 28 = .ok (.iload_n 3, 1) := by decide +kernel
theorem dJ5_appendChars_0ad70_29 : decode cJ5_appendChars_0ad70 29 = .ok (.if_icmp .ge 75, 3) := by decide +kernel
theorem dJ5_appendChars_0ad70_32 : decode cJ5_appendChars_0ad70 32 = .ok (.aload_n 1, 1) := by decide +kernel
theorem dJ5_appendChars_0ad70_33 : decode cJ5_appendChars_0ad70 33 = .ok (.iload 6, 2) := by decide +kernel
theorem dJ5_appendChars_0ad70_35 : decode cJ5_appendChars_0ad70 35 = .ok (.caload, 1) := by decide +kernel
theorem dJ5_appendChars_0ad70_36 : decode cJ5_appendChars_0ad70 36 = .ok (.istore 8, 2) := by decide +kernel
theorem dJ5_appendChars_0ad70_38 : decode cJ5_appendChars_0ad70 38 = .ok (.iload 8, 2) := by decide +kernel
theorem dJ5_appendChars_0ad70_40 : decode cJ5_appendChars_0ad70 40 = .ok (.invokestatic 191, 3) := by decide +kernel
theorem dJ5_appendChars_0ad70_43 : decode cJ5_appendChars_0ad70 43 = .ok (.ifCond .eq 17, 3) := by decide +kernel
theorem dJ5_appendChars_0ad70_46 : decode cJ5_appendChars_0ad70 46 = .ok (.aload 5, 2) := by decide +kernel
theorem dJ5_appendChars_0ad70_48 : decode cJ5_appendChars_0ad70 48 = .ok (.iload 7, 2) := by decide +kernel
theorem dJ5_appendChars_0ad70_50 : decode cJ5_appendChars_0ad70 50 = .ok (.iinc 7 1, 3) := by decide +kernel
theorem dJ5_appendChars_0ad70_53 : decode cJ5_appendChars_0ad70 53 = .ok (.iload 8, 2) := by decide +kernel
theorem dJ5_appendChars_0ad70_55 : decode cJ5_appendChars_0ad70 55 = .ok (.i2b, 1) := by decide +kernel
theorem dJ5_appendChars_0ad70_56 : decode cJ5_appendChars_0ad70 56 = .ok (.bastore, 1) := by decide +kernel
theorem dJ5_appendChars_0ad70_57 : decode cJ5_appendChars_0ad70 57 = .ok (.goto 41, 3) := by decide +kernel
theorem dJ5_appendChars_0ad70_60 : decode cJ5_appendChars_0ad70 60 = .ok (.aload_n 0, 1) := by decide +kernel
theorem dJ5_appendChars_0ad70_61 : decode cJ5_appendChars_0ad70 61 = .ok (.iload 7, 2) := by decide +kernel
theorem dJ5_appendChars_0ad70_63 : decode cJ5_appendChars_0ad70 63 = .ok (.dup, 1) := by decide +kernel
theorem dJ5_appendChars_0ad70_64 : decode cJ5_appendChars_0ad70 64 = .ok (.istore 4, 2) := by decide +kernel
theorem dJ5_appendChars_0ad70_66 : decode cJ5_appendChars_0ad70 66 = .ok (.putfield 79, 3) := by decide +kernel
theorem dJ5_appendChars_0ad70_69 : decode cJ5_appendChars_0ad70 69 = .ok (.aload_n 0, 1) := by decide +kernel
theorem dJ5_appendChars_0ad70_70 : decode cJ5_appendChars_0ad70 70 = .ok (.invokevirtual 195, 3) := by decide +kernel
theorem dJ5_appendChars_0ad70_73 : decode cJ5_appendChars_0ad70 73 = .ok (.aload_n 0, 1) := by decide +kernel
theorem dJ5_appendChars_0ad70_74 : decode cJ5_appendChars_0ad70 74 = .ok (.getfield 15, 3) := by decide +kernel
theorem dJ5_appendChars_0ad70_77 : decode cJ5_appendChars_0ad70 77 = .ok (.iload 7, 2) := by decide +kernel
theorem dJ5_appendChars_0ad70_79 : decode cJ5_appendChars_0ad70 79 = .ok (.aload_n 1, 1) := by decide +kernel
theorem dJ5_appendChars_0ad70_80 : decode cJ5_appendChars_0ad70 80 = .ok (.iload 6, 2) := by decide +kernel
theorem dJ5_appendChars_0ad70_82 : decode cJ5_appendChars_0ad70 82 = .ok (.iload_n 3, 1) := by decide +kernel
theorem dJ5_appendChars_0ad70_83 : decode cJ5_appendChars_0ad70 83 = .ok (.invokestatic 386, 3) := by decide +kernel
theorem dJ5_appendChars_0ad70_86 : decode cJ5_appendChars_0ad70 86 = .ok (.aload_n 0, 1) := by decide +kernel
theorem dJ5_appendChars_0ad70_87 : decode cJ5_appendChars_0ad70 87 = .ok (.iload 4, 2) := by decide +kernel
theorem dJ5_appendChars_0ad70_89 : decode cJ5_appendChars_0ad70 89 = .ok (.iload_n 3, 1) := by decide +kernel
theorem dJ5_appendChars_0ad70_90 : decode cJ5_appendChars_0ad70 90 = .ok (.iadd, 1) := by decide +kernel
theorem dJ5_appendChars_0ad70_91 : decode cJ5_appendChars_0ad70 91 = .ok (.iload 6, 2) := by decide +kernel
theorem dJ5_appendChars_0ad70_93 : decode cJ5_appendChars_0ad70 93 = .ok (.isub, 1) := by decide +kernel
theorem dJ5_appendChars_0ad70_94 : decode cJ5_appendChars_0ad70 94 = .ok (.putfield 79, 3) := by decide +kernel
theorem dJ5_appendChars_0ad70_97 : decode cJ5_appendChars_0ad70 97 = .ok (.return_, 1) := by decide +kernel
theorem dJ5_appendChars_0ad70_98 : decode cJ5_appendChars_0ad70 98 = .ok (.iinc 6 1, 3) := by decide +kernel
theorem dJ5_appendChars_0ad70_101 : decode cJ5_appendChars_0ad70 101 = .ok (.goto (-75), 3) := by decide +kernel
theorem dJ5_appendChars_0ad70_104 : decode cJ5_appendChars_0ad70 104 = .ok (.goto 15, 3) := by decide +kernel
theorem dJ5_appendChars_0ad70_107 : decode cJ5_appendChars_0ad70 107 = .ok (.aload_n 0, 1) := by decide +kernel
theorem dJ5_appendChars_0ad70_108 : decode cJ5_appendChars_0ad70 108 = .ok (.getfield 15, 3) := by decide +kernel
theorem dJ5_appendChars_0ad70_111 : decode cJ5_appendChars_0ad70 111 = .ok (.iload 4, 2) := by decide +kernel
theorem dJ5_appendChars_0ad70_113 : decode cJ5_appendChars_0ad70 113 = .ok (.aload_n 1, 1) := by decide +kernel
theorem dJ5_appendChars_0ad70_114 : decode cJ5_appendChars_0ad70 114 = .ok (.iload_n 2, 1) := by decide +kernel
theorem dJ5_appendChars_0ad70_115 : decode cJ5_appendChars_0ad70 115 = .ok (.iload_n 3, 1) := by decide +kernel
theorem dJ5_appendChars_0ad70_116 : decode cJ5_appendChars_0ad70 116 = .ok (.invokestatic 386, 3) := by decide +kernel
theorem dJ5_appendChars_0ad70_119 : decode cJ5_appendChars_0ad70 119 = .ok (.aload_n 0, 1) := by decide +kernel
theorem dJ5_appendChars_0ad70_120 : decode cJ5_appendChars_0ad70 120 = .ok (.iload 4, 2) := by decide +kernel
theorem dJ5_appendChars_0ad70_122 : decode cJ5_appendChars_0ad70 122 = .ok (.iload_n 3, 1) := by decide +kernel
theorem dJ5_appendChars_0ad70_123 : decode cJ5_appendChars_0ad70 123 = .ok (.iadd, 1) := by decide +kernel
theorem dJ5_appendChars_0ad70_124 : decode cJ5_appendChars_0ad70 124 = .ok (.iload_n 2, 1) := by decide +kernel
theorem dJ5_appendChars_0ad70_125 : decode cJ5_appendChars_0ad70 125 = .ok (.isub, 1) := by decide +kernel
theorem dJ5_appendChars_0ad70_126 : decode cJ5_appendChars_0ad70 126 = .ok (.putfield 79, 3) := by decide +kernel
theorem dJ5_appendChars_0ad70_129 : decode cJ5_appendChars_0ad70 129 = .ok (.return_, 1) := by decide +kernel
theorem dJ5_appendChars_3135b_0 : decode cJ5_appendChars_3135b 0 = .ok (.aload_n 0, 1) := by decide +kernel
theorem dJ5_appendChars_3135b_1 : decode cJ5_appendChars_3135b 1 = .ok (.invokevirtual 83, 3) := by decide +kernel
theorem dJ5_appendChars_3135b_4 : decode cJ5_appendChars_3135b 4 = .ok (.ifCond .eq 141, 3) := by decide +kernel
theorem dJ5_appendChars_3135b_7 : decode cJ5_appendChars_3135b 7 = .ok (.aload_n 1, 1) := by decide +kernel
theorem dJ5_appendChars_3135b_8 : decode cJ5_appendChars_3135b 8 = .ok (.invokevirtual 400, 3) := by decide +kernel
theorem dJ5_appendChars_3135b_11 : decode cJ5_appendChars_3135b 11 = .ok (.ifCond .eq 25, 3) := by decide +kernel
theorem dJ5_appendChars_3135b_14 : decode cJ5_appendChars_3135b 14 = .ok (.aload_n 1, 1) := by decide +kernel
theorem dJ5_appendChars_3135b_15 : decode cJ5_appendChars_3135b 15 = .ok (.invokevirtual 401, 3) := by decide +kernel
theorem dJ5_appendChars_3135b_18 : decode cJ5_appendChars_3135b 18 = .ok (.iload_n 2, 1) := by decide +kernel
theorem dJ5_appendChars_3135b_19 : decode cJ5_appendChars_3135b 19 = .ok (.aload_n 0, 1) := by decide +kernel
theorem dJ5_appendChars_3135b_20 : decode cJ5_appendChars_3135b 20 = .ok (.getfield 15, 3) := by decide +kernel
theorem dJ5_appendChars_3135b_23 : decode cJ5_appendChars_3135b 23 = .ok (.aload_n 0, 1) := by decide +kernel
theorem dJ5_appendChars_3135b_24 : decode cJ5_appendChars_3135b 24 = .ok (.getfield 79, 3) := by decide +kernel
theorem dJ5_appendChars_3135b_27 : decode cJ5_appendChars_3135b 27 = .ok (.iload_n 3, 1) := by decide +kernel
theorem dJ5_appendChars_3135b_28 : decode cJ5_appendChars_3135b 28 = .ok (.iload_n 2, 1) := by decide +kernel
theorem dJ5_appendChars_3135b_29 : decode cJ5_appendChars_3135b 29 = .ok (.isub, 1) := by decide +kernel
theorem dJ5_appendChars_3135b_30 : decode cJ5_appendChars_3135b 30 = .ok (.invokestatic 309, 3) := by decide +kernel
theorem dJ5_appendChars_3135b_33 : decode cJ5_appendChars_3135b 33 = .ok (.goto 161, 3) := by decide +kernel
theorem dJ5_appendChars_3135b_36 : decode cJ5_appendChars_3135b 36 = .ok (.aload_n 0, 1) := by decide +kernel
theorem dJ5_appendChars_3135b_37 : decode cJ5_appendChars_3135b 37 = .ok (.getfield 15, 3) := by decide +kernel
theorem dJ5_appendChars_3135b_40 : decode cJ5_appendChars_3135b 40 = .ok (.astore 4, 2) := by decide +kernel
theorem dJ5_appendChars_3135b_42 : decode cJ5_appendChars_3135b 42 = .ok (.iload_n 2, 1) := by decide +kernel
theorem dJ5_appendChars_3135b_43 : decode cJ5_appendChars_3135b 43 = .ok (.istore 5, 2) := by decide +kernel
theorem dJ5_appendChars_3135b_45 : decode cJ5_appendChars_3135b 45 = .ok (.aload_n 0, 1) := by decide +kernel
theorem dJ5_appendChars_3135b_46 : decode cJ5_appendChars_3135b 46 = .ok (.getfield 79, 3) := by decide +kernel
theorem dJ5_appendChars_3135b_49 : decode cJ5_appendChars_3135b 49 = .ok (.istore 6, 2) := by decide +kernel
theorem dJ5_appendChars_3135b_51 : decode cJ5_appendChars_3135b 51 = .ok (.iload 5, 2) := by decide +kernel
theorem dJ5_appendChars_3135b_53 : decode cJ5_appendChars_3135b 53 = .ok (.iload_n 3, 1) := by decide +kernel
theorem dJ5_appendChars_3135b_54 : decode cJ5_appendChars_3135b 54 = .ok (.if_icmp .ge 88, 3) := by decide +kernel
theorem dJ5_appendChars_3135b_57 : decode cJ5_appendChars_3135b 57 = .ok (.aload_n 1, 1) := by decide +kernel
theorem dJ5_appendChars_3135b_58 : decode cJ5_appendChars_3135b 58 = .ok (.iload 5, 2) := by decide +kernel
theorem dJ5_appendChars_3135b_60 : decode cJ5_appendChars_3135b 60 = .ok (.invokevirtual 404, 3) := by decide +kernel
theorem dJ5_appendChars_3135b_63 : decode cJ5_appendChars_3135b 63 = .ok (.istore 7, 2) := by decide +kernel
theorem dJ5_appendChars_3135b_65 : decode cJ5_appendChars_3135b 65 = .ok (.iload 7, 2) := by decide +kernel
theorem dJ5_appendChars_3135b_67 : decode cJ5_appendChars_3135b 67 = .ok (.invokestatic 191, 3) := by decide +kernel
theorem dJ5_appendChars_3135b_70 : decode cJ5_appendChars_3135b 70 = .ok (.ifCond .eq 17, 3) := by decide +kernel
theorem dJ5_appendChars_3135b_73 : decode cJ5_appendChars_3135b 73 = .ok (.aload 4, 2) := by decide +kernel
theorem dJ5_appendChars_3135b_75 : decode cJ5_appendChars_3135b 75 = .ok (.iload 6, 2) := by decide +kernel
theorem dJ5_appendChars_3135b_77 : decode cJ5_appendChars_3135b 77 = .ok (.iinc 6 1, 3) := by decide +kernel
theorem dJ5_appendChars_3135b_80 : decode cJ5_appendChars_3135b 80 = .ok (.iload 7, 2) := by decide +kernel
theorem dJ5_appendChars_3135b_82 : decode cJ5_appendChars_3135b 82 = .ok (.i2b, 1) := by decide +kernel
theorem dJ5_appendChars_3135b_83 : decode cJ5_appendChars_3135b 83 = .ok (.bastore, 1) := by decide +kernel
theorem dJ5_appendChars_3135b_84 : decode cJ5_appendChars_3135b 84 = .ok (.goto 52, 3) := by decide +kernel
theorem dJ5_appendChars_3135b_87 : decode cJ5_appendChars_3135b 87 = .ok (.aload_n 0, 1) := by decide +kernel
theorem dJ5_appendChars_3135b_88 : decode cJ5_appendChars_3135b 88 = .ok (.iload 6, 2) := by decide +kernel
theorem dJ5_appendChars_3135b_90 : decode cJ5_appendChars_3135b 90 = .ok (.putfield 79, 3) := by decide +kernel
theorem dJ5_appendChars_3135b_93 : decode cJ5_appendChars_3135b 93 = .ok (.aload_n 0, 1) := by decide +kernel
theorem dJ5_appendChars_3135b_94 : decode cJ5_appendChars_3135b 94 = .ok (.invokevirtual 195, 3) := by decide +kernel
theorem dJ5_appendChars_3135b_97 : decode cJ5_appendChars_3135b 97 = .ok (.aload_n 1, 1) := by decide +kernel
theorem dJ5_appendChars_3135b_98 : decode cJ5_appendChars_3135b 98 = .ok (.invokevirtual 401, 3) := by decide +kernel
theorem dJ5_appendChars_3135b_101 : decode cJ5_appendChars_3135b 101 = .ok (.iload 5, 2) := by decide +kernel
theorem dJ5_appendChars_3135b_103 : decode cJ5_appendChars_3135b 103 = .ok (.iconst 1, 1) := by decide +kernel
theorem dJ5_appendChars_3135b_104 : decode cJ5_appendChars_3135b 104 = .ok (.ishl, 1) := by decide +kernel
theorem dJ5_appendChars_3135b_105 : decode cJ5_appendChars_3135b 105 = .ok (.aload_n 0, 1) := by decide +kernel
theorem dJ5_appendChars_3135b_106 : decode cJ5_appendChars_3135b 106 = .ok (.getfield 15, 3) := by decide +kernel
theorem dJ5_appendChars_3135b_109 : decode cJ5_appendChars_3135b 109 = .ok (.iload 6, 2) := by decide +kernel
theorem dJ5_appendChars_3135b_111 : decode cJ5_appendChars_3135b 111 = .ok (.iconst 1, 1) := by decide +kernel
theorem dJ5_appendChars_3135b_112 : decode cJ5_appendChars_3135b 112 = .ok (.ishl, 1) := by decide +kernel
theorem dJ5_appendChars_3135b_113 : decode cJ5_appendChars_3135b 113 = .ok (.iload_n 3, 1) := by decide +kernel
theorem dJ5_appendChars_3135b_114 : decode cJ5_appendChars_3135b 114 = .ok (.iload 5, 2) := by decide +kernel
theorem dJ5_appendChars_3135b_116 : decode cJ5_appendChars_3135b 116 = .ok (.isub, 1) := by decide +kernel
theorem dJ5_appendChars_3135b_117 : decode cJ5_appendChars_3135b 117 = .ok (.iconst 1, 1) := by decide +kernel
theorem dJ5_appendChars_3135b_118 : decode cJ5_appendChars_3135b 118 = .ok (.ishl, 1) := by decide +kernel
theorem dJ5_appendChars_3135b_119 : decode cJ5_appendChars_3135b 119 = .ok (.invokestatic 309, 3) := by decide +kernel
theorem dJ5_appendChars_3135b_122 : decode cJ5_appendChars_3135b 122 = .ok (.aload_n 0, 1) := by decide +kernel
theorem dJ5_appendChars_3135b_123 : decode cJ5_appendChars_3135b 123 = .ok (.dup, 1) := by decide +kernel
theorem dJ5_appendChars_3135b_124 : decode cJ5_appendChars_3135b 124 = .ok (.getfield 79, 3) := by decide +kernel
theorem dJ5_appendChars_3135b_127 : decode cJ5_appendChars_3135b 127 = .ok (.iload_n 3, 1) := by decide +kernel
theorem dJ5_appendChars_3135b_128 : decode cJ5_appendChars_3135b 128 = .ok (.iload 5, 2) := by decide +kernel
theorem dJ5_appendChars_3135b_130 : decode cJ5_appendChars_3135b 130 = .ok (.isub, 1) := by decide +kernel
theorem dJ5_appendChars_3135b_131 : decode cJ5_appendChars_3135b 131 = .ok (.iadd, 1) := by decide +kernel
theorem dJ5_appendChars_3135b_132 : decode cJ5_appendChars_3135b 132 = .ok (.putfield 79, 3) := by decide +kernel
theorem dJ5_appendChars_3135b_135 : decode cJ5_appendChars_3135b 135 = .ok (.return_, 1) := by decide +kernel
theorem dJ5_appendChars_3135b_136 : decode cJ5_appendChars_3135b 136 = .ok (.iinc 5 1, 3) := by decide +kernel
theorem dJ5_appendChars_3135b_139 : decode cJ5_appendChars_3135b 139 = .ok (.goto (-88), 3) := by decide +kernel
theorem dJ5_appendChars_3135b_142 : decode cJ5_appendChars_3135b 142 = .ok (.goto 52, 3) := by decide +kernel
theorem dJ5_appendChars_3135b_145 : decode cJ5_appendChars_3135b 145 = .ok (.aload_n 1, 1) := by decide +kernel
theorem dJ5_appendChars_3135b_146 : decode cJ5_appendChars_3135b 146 = .ok (.invokevirtual 400, 3) := by decide +kernel
theorem dJ5_appendChars_3135b_149 : decode cJ5_appendChars_3135b 149 = .ok (.ifCond .eq 20, 3) := by decide +kernel
theorem dJ5_appendChars_3135b_152 : decode cJ5_appendChars_3135b 152 = .ok (.aload_n 0, 1) := by decide +kernel
theorem dJ5_appendChars_3135b_153 : decode cJ5_appendChars_3135b 153 = .ok (.getfield 15, 3) := by decide +kernel
theorem dJ5_appendChars_3135b_156 : decode cJ5_appendChars_3135b 156 = .ok (.aload_n 0, 1) := by decide +kernel
theorem dJ5_appendChars_3135b_157 : decode cJ5_appendChars_3135b 157 = .ok (.getfield 79, 3) := by decide +kernel
theorem dJ5_appendChars_3135b_160 : decode cJ5_appendChars_3135b 160 = .ok (.aload_n 1, 1) := by decide +kernel
theorem dJ5_appendChars_3135b_161 : decode cJ5_appendChars_3135b 161 = .ok (.iload_n 2, 1) := by decide +kernel
theorem dJ5_appendChars_3135b_162 : decode cJ5_appendChars_3135b 162 = .ok (.iload_n 3, 1) := by decide +kernel
theorem dJ5_appendChars_3135b_163 : decode cJ5_appendChars_3135b 163 = .ok (.invokestatic 394, 3) := by decide +kernel
theorem dJ5_appendChars_3135b_166 : decode cJ5_appendChars_3135b 166 = .ok (.goto 28, 3) := by decide +kernel
theorem dJ5_appendChars_3135b_169 : decode cJ5_appendChars_3135b 169 = .ok (.aload_n 1, 1) := by decide +kernel
theorem dJ5_appendChars_3135b_170 : decode cJ5_appendChars_3135b 170 = .ok (.invokevirtual 401, 3) := by decide +kernel
theorem dJ5_appendChars_3135b_173 : decode cJ5_appendChars_3135b 173 = .ok (.iload_n 2, 1) := by decide +kernel
theorem dJ5_appendChars_3135b_174 : decode cJ5_appendChars_3135b 174 = .ok (.iconst 1, 1) := by decide +kernel
theorem dJ5_appendChars_3135b_175 : decode cJ5_appendChars_3135b 175 = .ok (.ishl, 1) := by decide +kernel
theorem dJ5_appendChars_3135b_176 : decode cJ5_appendChars_3135b 176 = .ok (.aload_n 0, 1) := by decide +kernel
theorem dJ5_appendChars_3135b_177 : decode cJ5_appendChars_3135b 177 = .ok (.getfield 15, 3) := by decide +kernel
theorem dJ5_appendChars_3135b_180 : decode cJ5_appendChars_3135b 180 = .ok (.aload_n 0, 1) := by decide +kernel
theorem dJ5_appendChars_3135b_181 : decode cJ5_appendChars_3135b 181 = .ok (.getfield 79, 3) := by decide +kernel
theorem dJ5_appendChars_3135b_184 : decode cJ5_appendChars_3135b 184 = .ok (.iconst 1, 1) := by decide +kernel
theorem dJ5_appendChars_3135b_185 : decode cJ5_appendChars_3135b 185 = .ok (.ishl, 1) := by decide +kernel
theorem dJ5_appendChars_3135b_186 : decode cJ5_appendChars_3135b 186 = .ok (.iload_n 3, 1) := by decide +kernel
theorem dJ5_appendChars_3135b_187 : decode cJ5_appendChars_3135b 187 = .ok (.iload_n 2, 1) := by decide +kernel
theorem dJ5_appendChars_3135b_188 : decode cJ5_appendChars_3135b 188 = .ok (.isub, 1) := by decide +kernel
theorem dJ5_appendChars_3135b_189 : decode cJ5_appendChars_3135b 189 = .ok (.iconst 1, 1) := by decide +kernel
theorem dJ5_appendChars_3135b_190 : decode cJ5_appendChars_3135b 190 = .ok (.ishl, 1) := by decide +kernel
theorem dJ5_appendChars_3135b_191 : decode cJ5_appendChars_3135b 191 = .ok (.invokestatic 309, 3) := by decide +kernel
theorem dJ5_appendChars_3135b_194 : decode cJ5_appendChars_3135b 194 = .ok (.aload_n 0, 1) := by decide +kernel
theorem dJ5_appendChars_3135b_195 : decode cJ5_appendChars_3135b 195 = .ok (.dup, 1) := by decide +kernel
theorem dJ5_appendChars_3135b_196 : decode cJ5_appendChars_3135b 196 = .ok (.getfield 79, 3) := by decide +kernel
theorem dJ5_appendChars_3135b_199 : decode cJ5_appendChars_3135b 199 = .ok (.iload_n 3, 1) := by decide +kernel
theorem dJ5_appendChars_3135b_200 : decode cJ5_appendChars_3135b 200 = .ok (.iload_n 2, 1) := by decide +kernel
theorem dJ5_appendChars_3135b_201 : decode cJ5_appendChars_3135b 201 = .ok (.isub, 1) := by decide +kernel
theorem dJ5_appendChars_3135b_202 : decode cJ5_appendChars_3135b 202 = .ok (.iadd, 1) := by decide +kernel
theorem dJ5_appendChars_3135b_203 : decode cJ5_appendChars_3135b 203 = .ok (.putfield 79, 3) := by decide +kernel
theorem dJ5_appendChars_3135b_206 : decode cJ5_appendChars_3135b 206 = .ok (.return_, 1) := by decide +kernel
theorem dJ5_appendChars_a91ff_0 : decode cJ5_appendChars_a91ff 0 = .ok (.aload_n 0, 1) := by decide +kernel
theorem dJ5_appendChars_a91ff_1 : decode cJ5_appendChars_a91ff 1 = .ok (.invokevirtual 83, 3) := by decide +kernel
theorem dJ5_appendChars_a91ff_4 : decode cJ5_appendChars_a91ff 4 = .ok (.ifCond .eq 125, 3) := by decide +kernel
theorem dJ5_appendChars_a91ff_7 : decode cJ5_appendChars_a91ff 7 = .ok (.aload_n 0, 1) := by decide +kernel
theorem dJ5_appendChars_a91ff_8 : decode cJ5_appendChars_a91ff 8 = .ok (.getfield 15, 3) := by decide +kernel
theorem dJ5_appendChars_a91ff_11 : decode cJ5_appendChars_a91ff 11 = .ok (.astore 4, 2) := by decide +kernel
theorem dJ5_appendChars_a91ff_13 : decode cJ5_appendChars_a91ff 13 = .ok (.iload_n 2, 1) := by decide +kernel
theorem dJ5_appendChars_a91ff_14 : decode cJ5_appendChars_a91ff 14 = .ok (.istore 5, 2) := by decide +kernel
theorem dJ5_appendChars_a91ff_16 : decode cJ5_appendChars_a91ff 16 = .ok (.aload_n 0, 1) := by decide +kernel
theorem dJ5_appendChars_a91ff_17 : decode cJ5_appendChars_a91ff 17 = .ok (.getfield 79, 3) := by decide +kernel
theorem dJ5_appendChars_a91ff_20 : decode cJ5_appendChars_a91ff 20 = .ok (.istore 6, 2) := by decide +kernel
theorem dJ5_appendChars_a91ff_22 : decode cJ5_appendChars_a91ff 22 = .ok (.iload 5, 2) := by decide +kernel
theorem dJ5_appendChars_a91ff_24 : decode cJ5_appendChars_a91ff 24 = .ok (.iload_n 3, 1) := by decide +kernel
theorem dJ5_appendChars_a91ff_25 : decode cJ5_appendChars_a91ff 25 = .ok (.if_icmp .ge 101, 3) := by decide +kernel
theorem dJ5_appendChars_a91ff_28 : decode cJ5_appendChars_a91ff 28 = .ok (.aload_n 1, 1) := by decide +kernel
theorem dJ5_appendChars_a91ff_29 : decode cJ5_appendChars_a91ff 29 = .ok (.iload 5, 2) := by decide +kernel
theorem dJ5_appendChars_a91ff_31 : decode cJ5_appendChars_a91ff 31 = .ok (.invokeinterface 390 2, 5) := by decide +kernel
theorem dJ5_appendChars_a91ff_36 : decode cJ5_appendChars_a91ff 36 = .ok (.istore 7, 2) := by decide +kernel
theorem dJ5_appendChars_a91ff_38 : decode cJ5_appendChars_a91ff 38 = .ok (.iload 7, 2) := by decide +kernel
theorem dJ5_appendChars_a91ff_40 : decode cJ5_appendChars_a91ff 40 = .ok (.invokestatic 191, 3) := by decide +kernel
theorem dJ5_appendChars_a91ff_43 : decode cJ5_appendChars_a91ff 43 = .ok (.ifCond .eq 17, 3) := by decide +kernel
theorem dJ5_appendChars_a91ff_46 : decode cJ5_appendChars_a91ff 46 = .ok (.aload 4, 2) := by decide +kernel
theorem dJ5_appendChars_a91ff_48 : decode cJ5_appendChars_a91ff 48 = .ok (.iload 6, 2) := by decide +kernel
theorem dJ5_appendChars_a91ff_50 : decode cJ5_appendChars_a91ff 50 = .ok (.iinc 6 1, 3) := by decide +kernel
theorem dJ5_appendChars_a91ff_53 : decode cJ5_appendChars_a91ff 53 = .ok (.iload 7, 2) := by decide +kernel
theorem dJ5_appendChars_a91ff_55 : decode cJ5_appendChars_a91ff 55 = .ok (.i2b, 1) := by decide +kernel
theorem dJ5_appendChars_a91ff_56 : decode cJ5_appendChars_a91ff 56 = .ok (.bastore, 1) := by decide +kernel
theorem dJ5_appendChars_a91ff_57 : decode cJ5_appendChars_a91ff 57 = .ok (.goto 63, 3) := by decide +kernel
theorem dJ5_appendChars_a91ff_60 : decode cJ5_appendChars_a91ff 60 = .ok (.aload_n 0, 1) := by decide +kernel
theorem dJ5_appendChars_a91ff_61 : decode cJ5_appendChars_a91ff 61 = .ok (.iload 6, 2) := by decide +kernel
theorem dJ5_appendChars_a91ff_63 : decode cJ5_appendChars_a91ff 63 = .ok (.putfield 79, 3) := by decide +kernel
theorem dJ5_appendChars_a91ff_66 : decode cJ5_appendChars_a91ff 66 = .ok (.aload_n 0, 1) := by decide +kernel
theorem dJ5_appendChars_a91ff_67 : decode cJ5_appendChars_a91ff 67 = .ok (.invokevirtual 195, 3) := by decide +kernel
theorem dJ5_appendChars_a91ff_70 : decode cJ5_appendChars_a91ff 70 = .ok (.aload_n 0, 1) := by decide +kernel
theorem dJ5_appendChars_a91ff_71 : decode cJ5_appendChars_a91ff 71 = .ok (.getfield 15, 3) := by decide +kernel
theorem dJ5_appendChars_a91ff_74 : decode cJ5_appendChars_a91ff 74 = .ok (.iload 6, 2) := by decide +kernel
theorem dJ5_appendChars_a91ff_76 : decode cJ5_appendChars_a91ff 76 = .ok (.iinc 6 1, 3) := by decide +kernel
theorem dJ5_appendChars_a91ff_79 : decode cJ5_appendChars_a91ff 79 = .ok (.iload 7, 2) := by decide +kernel
theorem dJ5_appendChars_a91ff_81 : decode cJ5_appendChars_a91ff 81 = .ok (.invokestatic 197, 3) := by decide +kernel
theorem dJ5_appendChars_a91ff_84 : decode cJ5_appendChars_a91ff 84 = .ok (.aload_n 0, 1) := by decide +kernel
theorem dJ5_appendChars_a91ff_85 : decode cJ5_appendChars_a91ff 85 = .ok (.iload 6, 2) := by decide +kernel
theorem dJ5_appendChars_a91ff_87 : decode cJ5_appendChars_a91ff 87 = .ok (.putfield 79, 3) := by decide +kernel
theorem dJ5_appendChars_a91ff_90 : decode cJ5_appendChars_a91ff 90 = .ok (.iinc 5 1, 3) := by decide +kernel
theorem dJ5_appendChars_a91ff_93 : decode cJ5_appendChars_a91ff 93 = .ok (.aload_n 0, 1) := by decide +kernel
theorem dJ5_appendChars_a91ff_94 : decode cJ5_appendChars_a91ff 94 = .ok (.getfield 15, 3) := by decide +kernel
theorem dJ5_appendChars_a91ff_97 : decode cJ5_appendChars_a91ff 97 = .ok (.iload 6, 2) := by decide +kernel
theorem dJ5_appendChars_a91ff_99 : decode cJ5_appendChars_a91ff 99 = .ok (.aload_n 1, 1) := by decide +kernel
theorem dJ5_appendChars_a91ff_100 : decode cJ5_appendChars_a91ff 100 = .ok (.iload 5, 2) := by decide +kernel
theorem dJ5_appendChars_a91ff_102 : decode cJ5_appendChars_a91ff 102 = .ok (.iload_n 3, 1) := by decide +kernel
theorem dJ5_appendChars_a91ff_103 : decode cJ5_appendChars_a91ff 103 = .ok (.invokestatic 394, 3) := by decide +kernel
theorem dJ5_appendChars_a91ff_106 : decode cJ5_appendChars_a91ff 106 = .ok (.aload_n 0, 1) := by decide +kernel
theorem dJ5_appendChars_a91ff_107 : decode cJ5_appendChars_a91ff 107 = .ok (.dup, 1) := by decide +kernel
theorem dJ5_appendChars_a91ff_108 : decode cJ5_appendChars_a91ff 108 = .ok (.getfield 79, 3) := by decide +kernel
theorem dJ5_appendChars_a91ff_111 : decode cJ5_appendChars_a91ff 111 = .ok (.iload_n 3, 1) := by decide +kernel
theorem dJ5_appendChars_a91ff_112 : decode cJ5_appendChars_a91ff 112 = .ok (.iload 5, 2) := by decide +kernel
theorem dJ5_appendChars_a91ff_114 : decode cJ5_appendChars_a91ff 114 = .ok (.isub, 1) := by decide +kernel
theorem dJ5_appendChars_a91ff_115 : decode cJ5_appendChars_a91ff 115 = .ok (.iadd, 1) := by decide +kernel
theorem dJ5_appendChars_a91ff_116 : decode cJ5_appendChars_a91ff 116 = .ok (.putfield 79, 3) := by decide +kernel
theorem dJ5_appendChars_a91ff_119 : decode cJ5_appendChars_a91ff 119 = .ok (.return_, 1) := by decide +kernel
theorem dJ5_appendChars_a91ff_120 : decode cJ5_appendChars_a91ff 120 = .ok (.iinc 5 1, 3) := by decide +kernel
theorem dJ5_appendChars_a91ff_123 : decode cJ5_appendChars_a91ff 123 = .ok (.goto (-101), 3) := by decide +kernel
theorem dJ5_appendChars_a91ff_126 : decode cJ5_appendChars_a91ff 126 = .ok (.goto 17, 3) := by decide +kernel
theorem dJ5_appendChars_a91ff_129 : decode cJ5_appendChars_a91ff 129 = .ok (.aload_n 0, 1) := by decide +kernel
theorem dJ5_appendChars_a91ff_130 : decode cJ5_appendChars_a91ff 130 = .ok (.getfield 15, 3) := by decide +kernel
theorem dJ5_appendChars_a91ff_133 : decode cJ5_appendChars_a91ff 133 = .ok (.aload_n 0, 1) := by decide +kernel
theorem dJ5_appendChars_a91ff_134 : decode cJ5_appendChars_a91ff 134 = .ok (.getfield 79, 3) := by decide +kernel
theorem dJ5_appendChars_a91ff_137 : decode cJ5_appendChars_a91ff 137 = .ok (.aload_n 1, 1) := by decide +kernel
theorem dJ5_appendChars_a91ff_138 : decode cJ5_appendChars_a91ff 138 = .ok (.iload_n 2, 1) := by decide +kernel
theorem dJ5_appendChars_a91ff_139 : decode cJ5_appendChars_a91ff 139 = .ok (.iload_n 3, 1) := by decide +kernel
theorem dJ5_appendChars_a91ff_140 : decode cJ5_appendChars_a91ff 140 = .ok (.invokestatic 394, 3) := by decide +kernel
theorem dJ5_appendChars_a91ff_143 : decode cJ5_appendChars_a91ff 143 = .ok (.aload_n 0, 1) := by decide +kernel
theorem dJ5_appendChars_a91ff_144 : decode cJ5_appendChars_a91ff 144 = .ok (.dup, 1) := by decide +kernel
theorem dJ5_appendChars_a91ff_145 : decode cJ5_appendChars_a91ff 145 = .ok (.getfield 79, 3) := by decide +kernel
theorem dJ5_appendChars_a91ff_148 : decode cJ5_appendChars_a91ff 148 = .ok (.iload_n 3, 1) := by decide +kernel
theorem dJ5_appendChars_a91ff_149 : decode cJ5_appendChars_a91ff 149 = .ok (.iload_n 2, 1) := by decide +kernel
theorem dJ5_appendChars_a91ff_150 : decode cJ5_appendChars_a91ff 150 = .ok (.isub, 1) := by decide +kernel
theorem dJ5_appendChars_a91ff_151 : decode cJ5_appendChars_a91ff 151 = .ok (.iadd, 1) := by decide +kernel
theorem dJ5_appendChars_a91ff_152 : decode cJ5_appendChars_a91ff 152 = .ok (.putfield 79, 3) := by decide +kernel
theorem dJ5_appendChars_a91ff_155 : decode cJ5_appendChars_a91ff 155 = .ok (.return_, 1) := by decide +kernel
theorem dJx00060_init_a7421_0 : decode cJx00060_init_a7421 0 = .ok (.aload_n 0, 1) := by decide +kernel
theorem dJx00060_init_a7421_1 : decode cJx00060_init_a7421 1 = .ok (.aload_n 1, 1) := by decide +kernel
theorem dJx00060_init_a7421_2 : decode cJx00060_init_a7421 2 = .ok (.invokespecial 7, 3) := by decide +kernel
theorem dJx00060_init_a7421_5 : decode cJx00060_init_a7421 5 = .ok (.return_, 1) := by decide +kernel
theorem dJ6_getChars_ba4f3_0 : decode cJ6_getChars_ba4f3 0 = .ok (.iload_n 1, 1) := by decide +kernel
theorem dJ6_getChars_ba4f3_1 : decode cJ6_getChars_ba4f3 1 = .ok (.istore 5, 2) := by decide +kernel
theorem dJ6_getChars_ba4f3_3 : decode cJ6_getChars_ba4f3 3 = .ok (.iload_n 0, 1) := by decide +kernel
theorem dJ6_getChars_ba4f3_4 : decode cJ6_getChars_ba4f3 4 = .ok (.ifCond .ge 7, 3) := by decide +kernel
theorem dJ6_getChars_ba4f3_7 : decode cJ6_getChars_ba4f3 7 = .ok (.iconst 1, 1) := by decide +kernel
theorem dJ6_getChars_ba4f3_8 : decode cJ6_getChars_ba4f3 8 = .ok (.goto 4, 3) := by decide +kernel
theorem dJ6_getChars_ba4f3_11 : decode cJ6_getChars_ba4f3 11 = .ok (.iconst 0, 1) := by decide +kernel
theorem dJ6_getChars_ba4f3_12 : decode cJ6_getChars_ba4f3 12 = .ok (.istore 6, 2) := by decide +kernel
theorem dJ6_getChars_ba4f3_14 : decode cJ6_getChars_ba4f3 14 = .ok (.iload 6, 2) := by decide +kernel
theorem dJ6_getChars_ba4f3_16 : decode cJ6_getChars_ba4f3 16 = .ok (.ifCond .ne 6, 3) := by decide +kernel
theorem dJ6_getChars_ba4f3_19 : decode cJ6_getChars_ba4f3 19 = .ok (.iload_n 0, 1) := by decide +kernel
theorem dJ6_getChars_ba4f3_20 : decode cJ6_getChars_ba4f3 20 = .ok (.ineg, 1) := by decide +kernel
theorem dJ6_getChars_ba4f3_21 : decode cJ6_getChars_ba4f3 21 = .ok (.istore_n 0, 1) := by decide +kernel
theorem dJ6_getChars_ba4f3_22 : decode cJ6_getChars_ba4f3 22 = .ok (.iload_n 0, 1) := by decide +kernel
theorem dJ6_getChars_ba4f3_23 : decode cJ6_getChars_ba4f3 23 = .ok (.bipush (-100), 2) := by decide +kernel
theorem dJ6_getChars_ba4f3_25 : decode cJ6_getChars_ba4f3 25 = .ok (.if_icmp .gt 47, 3) := by decide +kernel
theorem dJ6_getChars_ba4f3_28 : decode cJ6_getChars_ba4f3 28 = .ok (.iload_n 0, 1) := by decide +kernel
theorem dJ6_getChars_ba4f3_29 : decode cJ6_getChars_ba4f3 29 = .ok (.bipush 100, 2) := by decide +kernel
theorem dJ6_getChars_ba4f3_31 : decode cJ6_getChars_ba4f3 31 = .ok (.idiv, 1) := by decide +kernel
theorem dJ6_getChars_ba4f3_32 : decode cJ6_getChars_ba4f3 32 = .ok (.istore_n 3, 1) := by decide +kernel
theorem dJ6_getChars_ba4f3_33 : decode cJ6_getChars_ba4f3 33 = .ok (.iload_n 3, 1) := by decide +kernel
theorem dJ6_getChars_ba4f3_34 : decode cJ6_getChars_ba4f3 34 = .ok (.bipush 100, 2) := by decide +kernel
theorem dJ6_getChars_ba4f3_36 : decode cJ6_getChars_ba4f3 36 = .ok (.imul, 1) := by decide +kernel
theorem dJ6_getChars_ba4f3_37 : decode cJ6_getChars_ba4f3 37 = .ok (.iload_n 0, 1) := by decide +kernel
theorem dJ6_getChars_ba4f3_38 : decode cJ6_getChars_ba4f3 38 = .ok (.isub, 1) := by decide +kernel
theorem dJ6_getChars_ba4f3_39 : decode cJ6_getChars_ba4f3 39 = .ok (.istore 4, 2) := by decide +kernel
theorem dJ6_getChars_ba4f3_41 : decode cJ6_getChars_ba4f3 41 = .ok (.iload_n 3, 1) := by decide +kernel
theorem dJ6_getChars_ba4f3_42 : decode cJ6_getChars_ba4f3 42 = .ok (.istore_n 0, 1) := by decide +kernel
theorem dJ6_getChars_ba4f3_43 : decode cJ6_getChars_ba4f3 43 = .ok (.aload_n 2, 1) := by decide +kernel
theorem dJ6_getChars_ba4f3_44 : decode cJ6_getChars_ba4f3 44 = .ok (.iinc 5 (-1), 3) := by decide +kernel
theorem dJ6_getChars_ba4f3_47 : decode cJ6_getChars_ba4f3 47 = .ok (.iload 5, 2) := by decide +kernel
theorem dJ6_getChars_ba4f3_49 : decode cJ6_getChars_ba4f3 49 = .ok (.getstatic 83, 3) := by decide +kernel
theorem dJ6_getChars_ba4f3_52 : decode cJ6_getChars_ba4f3 52 = .ok (.iload 4, 2) := by decide +kernel
theorem dJ6_getChars_ba4f3_54 : decode cJ6_getChars_ba4f3 54 = .ok (.baload, 1) := by decide +kernel
theorem dJ6_getChars_ba4f3_55 : decode cJ6_getChars_ba4f3 55 = .ok (.bastore, 1) := by decide +kernel
theorem dJ6_getChars_ba4f3_56 : decode cJ6_getChars_ba4f3 56 = .ok (.aload_n 2, 1) := by decide +kernel
theorem dJ6_getChars_ba4f3_57 : decode cJ6_getChars_ba4f3 57 = .ok (.iinc 5 (-1), 3) := by decide +kernel
theorem dJ6_getChars_ba4f3_60 : decode cJ6_getChars_ba4f3 60 = .ok (.iload 5, 2) := by decide +kernel
theorem dJ6_getChars_ba4f3_62 : decode cJ6_getChars_ba4f3 62 = .ok (.getstatic 87, 3) := by decide +kernel
theorem dJ6_getChars_ba4f3_65 : decode cJ6_getChars_ba4f3 65 = .ok (.iload 4, 2) := by decide +kernel
theorem dJ6_getChars_ba4f3_67 : decode cJ6_getChars_ba4f3 67 = .ok (.baload, 1) := by decide +kernel
theorem dJ6_getChars_ba4f3_68 : decode cJ6_getChars_ba4f3 68 = .ok (.bastore, 1) := by decide +kernel
theorem dJ6_getChars_ba4f3_69 : decode cJ6_getChars_ba4f3 69 = .ok (.goto (-47), 3) := by decide +kernel
theorem dJ6_getChars_ba4f3_72 : decode cJ6_getChars_ba4f3 72 = .ok (.aload_n 2, 1) := by decide +kernel
theorem dJ6_getChars_ba4f3_73 : decode cJ6_getChars_ba4f3 73 = .ok (.iinc 5 (-1), 3) := by decide +kernel
theorem dJ6_getChars_ba4f3_76 : decode cJ6_getChars_ba4f3 76 = .ok (.iload 5, 2) := by decide +kernel
theorem dJ6_getChars_ba4f3_78 : decode cJ6_getChars_ba4f3 78 = .ok (.getstatic 83, 3) := by decide +kernel
theorem dJ6_getChars_ba4f3_81 : decode cJ6_getChars_ba4f3 81 = .ok (.iload_n 0, 1) := by decide +kernel
theorem dJ6_getChars_ba4f3_82 : decode cJ6_getChars_ba4f3 82 = .ok (.ineg, 1) := by decide +kernel
theorem dJ6_getChars_ba4f3_83 : decode cJ6_getChars_ba4f3 83 = .ok (.baload, 1) := by decide +kernel
theorem dJ6_getChars_ba4f3_84 : decode cJ6_getChars_ba4f3 84 = .ok (.bastore, 1) := by decide +kernel
theorem dJ6_getChars_ba4f3_85 : decode cJ6_getChars_ba4f3 85 = .ok (.iload_n 0, 1) := by decide +kernel
theorem dJ6_getChars_ba4f3_86 : decode cJ6_getChars_ba4f3 86 = .ok (.bipush (-9), 2) := by decide +kernel
theorem dJ6_getChars_ba4f3_88 : decode cJ6_getChars_ba4f3 88 = .ok (.if_icmp .ge 16, 3) := by decide +kernel
theorem dJ6_getChars_ba4f3_91 : decode cJ6_getChars_ba4f3 91 = .ok (.aload_n 2, 1) := by decide +kernel
theorem dJ6_getChars_ba4f3_92 : decode cJ6_getChars_ba4f3 92 = .ok (.iinc 5 (-1), 3) := by decide +kernel
theorem dJ6_getChars_ba4f3_95 : decode cJ6_getChars_ba4f3 95 = .ok (.iload 5, 2) := by decide +kernel
theorem dJ6_getChars_ba4f3_97 : decode cJ6_getChars_ba4f3 97 = .ok (.getstatic 87, 3) := by decide +kernel
theorem dJ6_getChars_ba4f3_100 : decode cJ6_getChars_ba4f3 100 = .ok (.iload_n 0, 1) := by decide +kernel
theorem dJ6_getChars_ba4f3_101 : decode cJ6_getChars_ba4f3 101 = .ok (.ineg, 1) := by decide +kernel
theorem dJ6_getChars_ba4f3_102 : decode cJ6_getChars_ba4f3 102 = .ok (.baload, 1) := by decide +kernel
theorem dJ6_getChars_ba4f3_103 : decode cJ6_getChars_ba4f3 103 = .ok (.bastore, 1) := by decide +kernel
theorem dJ6_getChars_ba4f3_104 : decode cJ6_getChars_ba4f3 104 = .ok (.iload 6, 2) := by decide +kernel
theorem dJ6_getChars_ba4f3_106 : decode cJ6_getChars_ba4f3 106 = .ok (.ifCond .eq 12, 3) := by decide +kernel
theorem dJ6_getChars_ba4f3_109 : decode cJ6_getChars_ba4f3 109 = .ok (.aload_n 2, 1) := by decide +kernel
theorem dJ6_getChars_ba4f3_110 : decode cJ6_getChars_ba4f3 110 = .ok (.iinc 5 (-1), 3) := by decide +kernel
theorem dJ6_getChars_ba4f3_113 : decode cJ6_getChars_ba4f3 113 = .ok (.iload 5, 2) := by decide +kernel
theorem dJ6_getChars_ba4f3_115 : decode cJ6_getChars_ba4f3 115 = .ok (.bipush 45, 2) := by decide +kernel
theorem dJ6_getChars_ba4f3_117 : decode cJ6_getChars_ba4f3 117 = .ok (.bastore, 1) := by decide +kernel
theorem dJ6_getChars_ba4f3_118 : decode cJ6_getChars_ba4f3 118 = .ok (.iload 5, 2) := by decide +kernel
theorem dJ6_getChars_ba4f3_120 : decode cJ6_getChars_ba4f3 120 = .ok (.ireturn, 1) := by decide +kernel
theorem dJ6_stringSize_0f7a4_0 : decode cJ6_stringSize_0f7a4 0 = .ok (.iconst 1, 1) := by decide +kernel
theorem dJ6_stringSize_0f7a4_1 : decode cJ6_stringSize_0f7a4 1 = .ok (.istore_n 1, 1) := by decide +kernel
theorem dJ6_stringSize_0f7a4_2 : decode cJ6_stringSize_0f7a4 2 = .ok (.iload_n 0, 1) := by decide +kernel
theorem dJ6_stringSize_0f7a4_3 : decode cJ6_stringSize_0f7a4 3 = .ok (.ifCond .lt 8, 3) := by decide +kernel
theorem dJ6_stringSize_0f7a4_6 : decode cJ6_stringSize_0f7a4 6 = .ok (.iconst 0, 1) := by decide +kernel
theorem dJ6_stringSize_0f7a4_7 : decode cJ6_stringSize_0f7a4 7 = .ok (.istore_n 1, 1) := by decide +kernel
theorem dJ6_stringSize_0f7a4_8 : decode cJ6_stringSize_0f7a4 8 = .ok (.iload_n 0, 1) := by decide +kernel
theorem dJ6_stringSize_0f7a4_9 : decode cJ6_stringSize_0f7a4 9 = .ok (.ineg, 1) := by decide +kernel
theorem dJ6_stringSize_0f7a4_10 : decode cJ6_stringSize_0f7a4 10 = .ok (.istore_n 0, 1) := by decide +kernel
theorem dJ6_stringSize_0f7a4_11 : decode cJ6_stringSize_0f7a4 11 = .ok (.bipush (-10), 2) := by decide +kernel
theorem dJ6_stringSize_0f7a4_13 : decode cJ6_stringSize_0f7a4 13 = .ok (.istore_n 2, 1) := by decide +kernel
theorem dJ6_stringSize_0f7a4_14 : decode cJ6_stringSize_0f7a4 14 = .ok (.iconst 1, 1) := by decide +kernel
theorem dJ6_stringSize_0f7a4_15 : decode cJ6_stringSize_0f7a4 15 = .ok (.istore_n 3, 1) := by decide +kernel
theorem dJ6_stringSize_0f7a4_16 : decode cJ6_stringSize_0f7a4 16 = .ok (.iload_n 3, 1) := by decide +kernel
theorem dJ6_stringSize_0f7a4_17 : decode cJ6_stringSize_0f7a4 17 = .ok (.bipush 10, 2) := by decide +kernel
theorem dJ6_stringSize_0f7a4_19 : decode cJ6_stringSize_0f7a4 19 = .ok (.if_icmp .ge 23, 3) := by decide +kernel
theorem dJ6_stringSize_0f7a4_22 : decode cJ6_stringSize_0f7a4 22 = .ok (.iload_n 0, 1) := by decide +kernel
theorem dJ6_stringSize_0f7a4_23 : decode cJ6_stringSize_0f7a4 23 = .ok (.iload_n 2, 1) := by decide +kernel
theorem dJ6_stringSize_0f7a4_24 : decode cJ6_stringSize_0f7a4 24 = .ok (.if_icmp .le 7, 3) := by decide +kernel
theorem dJ6_stringSize_0f7a4_27 : decode cJ6_stringSize_0f7a4 27 = .ok (.iload_n 3, 1) := by decide +kernel
theorem dJ6_stringSize_0f7a4_28 : decode cJ6_stringSize_0f7a4 28 = .ok (.iload_n 1, 1) := by decide +kernel
theorem dJ6_stringSize_0f7a4_29 : decode cJ6_stringSize_0f7a4 29 = .ok (.iadd, 1) := by decide +kernel
theorem dJ6_stringSize_0f7a4_30 : decode cJ6_stringSize_0f7a4 30 = .ok (.ireturn, 1) := by decide +kernel
theorem dJ6_stringSize_0f7a4_31 : decode cJ6_stringSize_0f7a4 31 = .ok (.bipush 10, 2) := by decide +kernel
theorem dJ6_stringSize_0f7a4_33 : decode cJ6_stringSize_0f7a4 33 = .ok (.iload_n 2, 1) := by decide +kernel
theorem dJ6_stringSize_0f7a4_34 : decode cJ6_stringSize_0f7a4 34 = .ok (.imul, 1) := by decide +kernel
theorem dJ6_stringSize_0f7a4_35 : decode cJ6_stringSize_0f7a4 35 = .ok (.istore_n 2, 1) := by decide +kernel
theorem dJ6_stringSize_0f7a4_36 : decode cJ6_stringSize_0f7a4 36 = .ok (.iinc 3 1, 3) := by decide +kernel
theorem dJ6_stringSize_0f7a4_39 : decode cJ6_stringSize_0f7a4 39 = .ok (.goto (-23), 3) := by decide +kernel
theorem dJ6_stringSize_0f7a4_42 : decode cJ6_stringSize_0f7a4 42 = .ok (.bipush 10, 2) := by decide +kernel
theorem dJ6_stringSize_0f7a4_44 : decode cJ6_stringSize_0f7a4 44 = .ok (.iload_n 1, 1) := by decide +kernel
theorem dJ6_stringSize_0f7a4_45 : decode cJ6_stringSize_0f7a4 45 = .ok (.iadd, 1) := by decide +kernel
theorem dJ6_stringSize_0f7a4_46 : decode cJ6_stringSize_0f7a4 46 = .ok (.ireturn, 1) := by decide +kernel
theorem dJ6_numberOfLeadingZeros_0f7a4_0 : decode cJ6_numberOfLeadingZeros_0f7a4 0 = .ok (.iload_n 0, 1) := by decide +kernel
theorem dJ6_numberOfLeadingZeros_0f7a4_1 : decode cJ6_numberOfLeadingZeros_0f7a4 1 = .ok (.ifCond .gt 14, 3) := by decide +kernel
theorem dJ6_numberOfLeadingZeros_0f7a4_4 : decode cJ6_numberOfLeadingZeros_0f7a4 4 = .ok (.iload_n 0, 1) := by decide +kernel
theorem dJ6_numberOfLeadingZeros_0f7a4_5 : decode cJ6_numberOfLeadingZeros_0f7a4 5 = .ok (.ifCond .ne 8, 3) := by decide +kernel
theorem dJ6_numberOfLeadingZeros_0f7a4_8 : decode cJ6_numberOfLeadingZeros_0f7a4 8 = .ok (.bipush 32, 2) := by decide +kernel
theorem dJ6_numberOfLeadingZeros_0f7a4_10 : decode cJ6_numberOfLeadingZeros_0f7a4 10 = .ok (.goto 4, 3) := by decide +kernel
theorem dJ6_numberOfLeadingZeros_0f7a4_13 : decode cJ6_numberOfLeadingZeros_0f7a4 13 = .ok (.iconst 0, 1) := by decide +kernel
theorem dJ6_numberOfLeadingZeros_0f7a4_14 : decode cJ6_numberOfLeadingZeros_0f7a4 14 = .ok (.ireturn, 1) := by decide +kernel
theorem dJ6_numberOfLeadingZeros_0f7a4_15 : decode cJ6_numberOfLeadingZeros_0f7a4 15 = .ok (.bipush 31, 2) := by decide +kernel
theorem dJ6_numberOfLeadingZeros_0f7a4_17 : decode cJ6_numberOfLeadingZeros_0f7a4 17 = .ok (.istore_n 1, 1) := by decide +kernel
theorem dJ6_numberOfLeadingZeros_0f7a4_18 : decode cJ6_numberOfLeadingZeros_0f7a4 18 = .ok (.iload_n 0, 1) := by decide +kernel
theorem dJ6_numberOfLeadingZeros_0f7a4_19 : decode cJ6_numberOfLeadingZeros_0f7a4 19 = .ok (.ldc_w 264, 3) := by decide +kernel
theorem dJ6_numberOfLeadingZeros_0f7a4_22 : decode cJ6_numberOfLeadingZeros_0f7a4 22 = .ok (.if_icmp .lt 11, 3) := by decide +kernel
theorem dJ6_numberOfLeadingZeros_0f7a4_25 : decode cJ6_numberOfLeadingZeros_0f7a4 25 = .ok (.iinc 1 (-16), 3) := by decide +kernel
theorem dJ6_numberOfLeadingZeros_0f7a4_28 : decode cJ6_numberOfLeadingZeros_0f7a4 28 = .ok (.iload_n 0, 1) := by decide +kernel
theorem dJ6_numberOfLeadingZeros_0f7a4_29 : decode cJ6_numberOfLeadingZeros_0f7a4 29 = .ok (.bipush 16, 2) := by decide +kernel
theorem dJ6_numberOfLeadingZeros_0f7a4_31 : decode cJ6_numberOfLeadingZeros_0f7a4 31 = .ok (.iushr, 1) := by decide +kernel
theorem dJ6_numberOfLeadingZeros_0f7a4_32 : decode cJ6_numberOfLeadingZeros_0f7a4 32 = .ok (.istore_n 0, 1) := by decide +kernel
theorem dJ6_numberOfLeadingZeros_0f7a4_33 : decode cJ6_numberOfLeadingZeros_0f7a4 33 = .ok (.iload_n 0, 1) := by decide +kernel
theorem dJ6_numberOfLeadingZeros_0f7a4_34 : decode cJ6_numberOfLeadingZeros_0f7a4 34 = .ok (.sipush 256, 3) := by decide +kernel
theorem dJ6_numberOfLeadingZeros_0f7a4_37 : decode cJ6_numberOfLeadingZeros_0f7a4 37 = .ok (.if_icmp .lt 11, 3) := by decide +kernel
theorem dJ6_numberOfLeadingZeros_0f7a4_40 : decode cJ6_numberOfLeadingZeros_0f7a4 40 = .ok (.iinc 1 (-8), 3) := by decide +kernel
theorem dJ6_numberOfLeadingZeros_0f7a4_43 : decode cJ6_numberOfLeadingZeros_0f7a4 43 = .ok (.iload_n 0, 1) := by decide +kernel
theorem dJ6_numberOfLeadingZeros_0f7a4_44 : decode cJ6_numberOfLeadingZeros_0f7a4 44 = .ok (.bipush 8, 2) := by decide +kernel
theorem dJ6_numberOfLeadingZeros_0f7a4_46 : decode cJ6_numberOfLeadingZeros_0f7a4 46 = .ok (.iushr, 1) := by decide +kernel
theorem dJ6_numberOfLeadingZeros_0f7a4_47 : decode cJ6_numberOfLeadingZeros_0f7a4 47 = .ok (.istore_n 0, 1) := by decide +kernel
theorem dJ6_numberOfLeadingZeros_0f7a4_48 : decode cJ6_numberOfLeadingZeros_0f7a4 48 = .ok (.iload_n 0, 1) := by decide +kernel
theorem dJ6_numberOfLeadingZeros_0f7a4_49 : decode cJ6_numberOfLeadingZeros_0f7a4 49 = .ok (.bipush 16, 2) := by decide +kernel
theorem dJ6_numberOfLeadingZeros_0f7a4_51 : decode cJ6_numberOfLeadingZeros_0f7a4 51 = .ok (.if_icmp .lt 10, 3) := by decide +kernel
theorem dJ6_numberOfLeadingZeros_0f7a4_54 : decode cJ6_numberOfLeadingZeros_0f7a4 54 = .ok (.iinc 1 (-4), 3) := by decide +kernel
theorem dJ6_numberOfLeadingZeros_0f7a4_57 : decode cJ6_numberOfLeadingZeros_0f7a4 57 = .ok (.iload_n 0, 1) := by decide +kernel
theorem dJ6_numberOfLeadingZeros_0f7a4_58 : decode cJ6_numberOfLeadingZeros_0f7a4 58 = .ok (.iconst 4, 1) := by decide +kernel
theorem dJ6_numberOfLeadingZeros_0f7a4_59 : decode cJ6_numberOfLeadingZeros_0f7a4 59 = .ok (.iushr, 1) := by decide +kernel
theorem dJ6_numberOfLeadingZeros_0f7a4_60 : decode cJ6_numberOfLeadingZeros_0f7a4 60 = .ok (.istore_n 0, 1) := by decide +kernel
theorem dJ6_numberOfLeadingZeros_0f7a4_61 : decode cJ6_numberOfLeadingZeros_0f7a4 61 = .ok (.iload_n 0, 1) := by decide +kernel
theorem dJ6_numberOfLeadingZeros_0f7a4_62 : decode cJ6_numberOfLeadingZeros_0f7a4 62 = .ok (.iconst 4, 1) := by decide +kernel
theorem dJ6_numberOfLeadingZeros_0f7a4_63 : decode cJ6_numberOfLeadingZeros_0f7a4 63 = .ok (.if_icmp .lt 10, 3) := by decide +kernel
theorem dJ6_numberOfLeadingZeros_0f7a4_66 : decode cJ6_numberOfLeadingZeros_0f7a4 66 = .ok (.iinc 1 (-2), 3) := by decide +kernel
theorem dJ6_numberOfLeadingZeros_0f7a4_69 : decode cJ6_numberOfLeadingZeros_0f7a4 69 = .ok (.iload_n 0, 1) := by decide +kernel
theorem dJ6_numberOfLeadingZeros_0f7a4_70 : decode cJ6_numberOfLeadingZeros_0f7a4 70 = .ok (.iconst 2, 1) := by decide +kernel
theorem dJ6_numberOfLeadingZeros_0f7a4_71 : decode cJ6_numberOfLeadingZeros_0f7a4 71 = .ok (.iushr, 1) := by decide +kernel
theorem dJ6_numberOfLeadingZeros_0f7a4_72 : decode cJ6_numberOfLeadingZeros_0f7a4 72 = .ok (.istore_n 0, 1) := by decide +kernel
theorem dJ6_numberOfLeadingZeros_0f7a4_73 : decode cJ6_numberOfLeadingZeros_0f7a4 73 = .ok (.iload_n 1, 1) := by decide +kernel
theorem dJ6_numberOfLeadingZeros_0f7a4_74 : decode cJ6_numberOfLeadingZeros_0f7a4 74 = .ok (.iload_n 0, 1) := by decide +kernel
theorem dJ6_numberOfLeadingZeros_0f7a4_75 : decode cJ6_numberOfLeadingZeros_0f7a4 75 = .ok (.iconst 1, 1) := by decide +kernel
theorem dJ6_numberOfLeadingZeros_0f7a4_76 : decode cJ6_numberOfLeadingZeros_0f7a4 76 = .ok (.iushr, 1) := by decide +kernel
theorem dJ6_numberOfLeadingZeros_0f7a4_77 : decode cJ6_numberOfLeadingZeros_0f7a4 77 = .ok (.isub, 1) := by decide +kernel
theorem dJ6_numberOfLeadingZeros_0f7a4_78 : decode cJ6_numberOfLeadingZeros_0f7a4 78 = .ok (.ireturn, 1) := by decide +kernel
theorem dJ13_getChars_11360_0 : decode cJ13_getChars_11360 0 = .ok (.iload_n 2, 1) := by decide +kernel
theorem dJ13_getChars_11360_1 : decode cJ13_getChars_11360 1 = .ok (.istore 7, 2) := by decide +kernel
theorem dJ13_getChars_11360_3 : decode cJ13_getChars_11360 3 = .ok (.lload_n 0, 1) := by decide +kernel
theorem dJ13_getChars_11360_4 : decode cJ13_getChars_11360 4 = .ok (.lconst 0, 1) := by decide +kernel
theorem dJ13_getChars_11360_5 : decode cJ13_getChars_11360 5 = .ok (.lcmp, 1) := by decide +kernel
theorem dJ13_getChars_11360_6 : decode cJ13_getChars_11360 6 = .ok (.ifCond .ge 7, 3) := by decide +kernel
theorem dJ13_getChars_11360_9 : decode cJ13_getChars_11360 9 = .ok (.iconst 1, 1) := by decide +kernel
theorem dJ13_getChars_11360_10 : decode cJ13_getChars_11360 10 = .ok (.goto 4, 3) := by decide +kernel
theorem dJ13_getChars_11360_13 : decode cJ13_getChars_11360 13 = .ok (.iconst 0, 1) := by decide +kernel
theorem dJ13_getChars_11360_14 : decode cJ13_getChars_11360 14 = .ok (.istore 8, 2) := by decide +kernel
theorem dJ13_getChars_11360_16 : decode cJ13_getChars_11360 16 = .ok (.iload 8, 2) := by decide +kernel
theorem dJ13_getChars_11360_18 : decode cJ13_getChars_11360 18 = .ok (.ifCond .ne 6, 3) := by decide +kernel
theorem dJ13_getChars_11360_21 : decode cJ13_getChars_11360 21 = .ok (.lload_n 0, 1) := by decide +kernel
theorem dJ13_getChars_11360_22 : decode cJ13_getChars_11360 22 = .ok (.lneg, 1) := by decide +kernel
theorem dJ13_getChars_11360_23 : decode cJ13_getChars_11360 23 = .ok (.lstore_n 0, 1) := by decide +kernel
theorem dJ13_getChars_11360_24 : decode cJ13_getChars_11360 24 = .ok (.lload_n 0, 1) := by decide +kernel
theorem dJ13_getChars_11360_25 : decode cJ13_getChars_11360 25 = .ok (.ldc2_w 129, 3) := by decide +kernel
theorem dJ13_getChars_11360_28 : decode cJ13_getChars_11360 28 = .ok (.lcmp, 1) := by decide +kernel
theorem dJ13_getChars_11360_29 : decode cJ13_getChars_11360 29 = .ok (.ifCond .gt 53, 3) := by decide +kernel
theorem dJ13_getChars_11360_32 : decode cJ13_getChars_11360 32 = .ok (.lload_n 0, 1) := by decide +kernel
theorem dJ13_getChars_11360_33 : decode cJ13_getChars_11360 33 = .ok (.ldc2_w 131, 3) := by decide +kernel
theorem dJ13_getChars_11360_36 : decode cJ13_getChars_11360 36 = .ok (.ldiv, 1) := by decide +kernel
theorem dJ13_getChars_11360_37 : decode cJ13_getChars_11360 37 = .ok (.lstore 4, 2) := by decide +kernel
theorem dJ13_getChars_11360_39 : decode cJ13_getChars_11360 39 = .ok (.lload 4, 2) := by decide +kernel
theorem dJ13_getChars_11360_41 : decode cJ13_getChars_11360 41 = .ok (.ldc2_w 131, 3) := by decide +kernel
theorem dJ13_getChars_11360_44 : decode cJ13_getChars_11360 44 = .ok (.lmul, 1) := by decide +kernel
theorem dJ13_getChars_11360_45 : decode cJ13_getChars_11360 45 = .ok (.lload_n 0, 1) := by decide +kernel
theorem dJ13_getChars_11360_46 : decode cJ13_getChars_11360 46 = .ok (.lsub, 1) := by decide +kernel
theorem dJ13_getChars_11360_47 : decode cJ13_getChars_11360 47 = .ok (.l2i, 1) := by decide +kernel
theorem dJ13_getChars_11360_48 : decode cJ13_getChars_11360 48 = .ok (.istore 6, 2) := by decide +kernel
theorem dJ13_getChars_11360_50 : decode cJ13_getChars_11360 50 = .ok (.lload 4, 2) := by decide +kernel
theorem dJ13_getChars_11360_52 : decode cJ13_getChars_11360 52 = .ok (.lstore_n 0, 1) := by decide +kernel
theorem dJ13_getChars_11360_53 : decode cJ13_getChars_11360 53 = .ok (.aload_n 3, 1) := by decide +kernel
theorem dJ13_getChars_11360_54 : decode cJ13_getChars_11360 54 = .ok (.iinc 7 (-1), 3) := by decide +kernel
theorem dJ13_getChars_11360_57 : decode cJ13_getChars_11360 57 = .ok (.iload 7, 2) := by decide +kernel
theorem dJ13_getChars_11360_59 : decode cJ13_getChars_11360 59 = .ok (.getstatic 133, 3) := by decide +kernel
theorem dJ13_getChars_11360_62 : decode cJ13_getChars_11360 62 = .ok (.iload 6, 2) := by decide +kernel
theorem dJ13_getChars_11360_64 : decode cJ13_getChars_11360 64 = .ok (.baload, 1) := by decide +kernel
theorem dJ13_getChars_11360_65 : decode cJ13_getChars_11360 65 = .ok (.bastore, 1) := by decide +kernel
theorem dJ13_getChars_11360_66 : decode cJ13_getChars_11360 66 = .ok (.aload_n 3, 1) := by decide +kernel
theorem dJ13_getChars_11360_67 : decode cJ13_getChars_11360 67 = .ok (.iinc 7 (-1), 3) := by decide +kernel
theorem dJ13_getChars_11360_70 : decode cJ13_getChars_11360 70 = .ok (.iload 7, 2) := by decide +kernel
theorem dJ13_getChars_11360_72 : decode cJ13_getChars_11360 72 = .ok (.getstatic 137, 3) := by decide +kernel
theorem dJ13_getChars_11360_75 : decode cJ13_getChars_11360 75 = .ok (.iload 6, 2) := by decide +kernel
theorem dJ13_getChars_11360_77 : decode cJ13_getChars_11360 77 = .ok (.baload, 1) := by decide +kernel
theorem dJ13_getChars_11360_78 : decode cJ13_getChars_11360 78 = .ok (.bastore, 1) := by decide +kernel
theorem dJ13_getChars_11360_79 : decode cJ13_getChars_11360 79 = .ok (.goto (-55), 3) := by decide +kernel
theorem dJ13_getChars_11360_82 : decode cJ13_getChars_11360 82 = .ok (.lload_n 0, 1) := by decide +kernel
theorem dJ13_getChars_11360_83 : decode cJ13_getChars_11360 83 = .ok (.l2i, 1) := by decide +kernel
theorem dJ13_getChars_11360_84 : decode cJ13_getChars_11360 84 = .ok (.istore 10, 2) := by decide +kernel
theorem dJ13_getChars_11360_86 : decode cJ13_getChars_11360 86 = .ok (.iload 10, 2) := by decide +kernel
theorem dJ13_getChars_11360_88 : decode cJ13_getChars_11360 88 = .ok (.bipush (-100), 2) := by decide +kernel
theorem dJ13_getChars_11360_90 : decode cJ13_getChars_11360 90 = .ok (.if_icmp .gt 53, 3) := by decide +kernel
theorem dJ13_getChars_11360_93 : decode cJ13_getChars_11360 93 = .ok (.iload 10, 2) := by decide +kernel
theorem dJ13_getChars_11360_95 : decode cJ13_getChars_11360 95 = .ok (.bipush 100, 2) := by decide +kernel
theorem dJ13_getChars_11360_97 : decode cJ13_getChars_11360 97 = .ok (.idiv, 1) := by decide +kernel
theorem dJ13_getChars_11360_98 : decode cJ13_getChars_11360 98 = .ok (.istore 9, 2) := by decide +kernel
theorem dJ13_getChars_11360_100 : decode cJ13_getChars_11360 100 = .ok (.iload 9, 2) := by decide +kernel
theorem dJ13_getChars_11360_102 : decode cJ13_getChars_11360 102 = .ok (.bipush 100, 2) := by decide +kernel
theorem dJ13_getChars_11360_104 : decode cJ13_getChars_11360 104 = .ok (.imul, 1) := by decide +kernel
theorem dJ13_getChars_11360_105 : decode cJ13_getChars_11360 105 = .ok (.iload 10, 2) := by decide +kernel
theorem dJ13_getChars_11360_107 : decode cJ13_getChars_11360 107 = .ok (.isub, 1) := by decide +kernel
theorem dJ13_getChars_11360_108 : decode cJ13_getChars_11360 108 = .ok (.istore 6, 2) := by decide +kernel
theorem dJ13_getChars_11360_110 : decode cJ13_getChars_11360 110 = .ok (.iload 9, 2) := by decide +kernel
theorem dJ13_getChars_11360_112 : decode cJ13_getChars_11360 112 = .ok (.istore 10, 2) := by decide +kernel
theorem dJ13_getChars_11360_114 : decode cJ13_getChars_11360 114 = .ok (.aload_n 3, 1) := by decide +kernel
theorem dJ13_getChars_11360_115 : decode cJ13_getChars_11360 115 = .ok (.iinc 7 (-1), 3) := by decide +kernel
theorem dJ13_getChars_11360_118 : decode cJ13_getChars_11360 118 = .ok (.iload 7, 2) := by decide +kernel
theorem dJ13_getChars_11360_120 : decode cJ13_getChars_11360 120 = .ok (.getstatic 133, 3) := by decide +kernel
theorem dJ13_getChars_11360_123 : decode cJ13_getChars_11360 123 = .ok (.iload 6, 2) := by decide +kernel
theorem dJ13_getChars_11360_125 : decode cJ13_getChars_11360 125 = .ok (.baload, 1) := by decide +kernel
theorem dJ13_getChars_11360_126 : decode cJ13_getChars_11360 126 = .ok (.bastore, 1) := by decide +kernel
theorem dJ13_getChars_11360_127 : decode cJ13_getChars_11360 127 = .ok (.aload_n 3, 1) := by decide +kernel
theorem dJ13_getChars_11360_128 : decode cJ13_getChars_11360 128 = .ok (.iinc 7 (-1), 3) := by decide +kernel
theorem dJ13_getChars_11360_131 : decode cJ13_getChars_11360 131 = .ok (.iload 7, 2) := by decide +kernel
theorem dJ13_getChars_11360_133 : decode cJ13_getChars_11360 133 = .ok (.getstatic 137, 3) := by decide +kernel
theorem dJ13_getChars_11360_136 : decode cJ13_getChars_11360 136 = .ok (.iload 6, 2) := by decide +kernel
theorem dJ13_getChars_11360_138 : decode cJ13_getChars_11360 138 = .ok (.baload, 1) := by decide +kernel
theorem dJ13_getChars_11360_139 : decode cJ13_getChars_11360 139 = .ok (.bastore, 1) := by decide +kernel
theorem dJ13_getChars_11360_140 : decode cJ13_getChars_11360 140 = .ok (.goto (-54), 3) := by decide +kernel
theorem dJ13_getChars_11360_143 : decode cJ13_getChars_11360 143 = .ok (.aload_n 3, 1) := by decide +kernel
theorem dJ13_getChars_11360_144 : decode cJ13_getChars_11360 144 = .ok (.iinc 7 (-1), 3) := by decide +kernel
theorem dJ13_getChars_11360_147 : decode cJ13_getChars_11360 147 = .ok (.iload 7, 2) := by decide +kernel
theorem dJ13_getChars_11360_149 : decode cJ13_getChars_11360 149 = .ok (.getstatic 133, 3) := by decide +kernel
theorem dJ13_getChars_11360_152 : decode cJ13_getChars_11360 152 = .ok (.iload 10, 2) := by decide +kernel
theorem dJ13_getChars_11360_154 : decode cJ13_getChars_11360 154 = .ok (.ineg, 1) := by decide +kernel
theorem dJ13_getChars_11360_155 : decode cJ13_getChars_11360 155 = .ok (.baload, 1) := by decide +kernel
theorem dJ13_getChars_11360_156 : decode cJ13_getChars_11360 156 = .ok (.bastore, 1) := by decide +kernel
theorem dJ13_getChars_11360_157 : decode cJ13_getChars_11360 157 = .ok (.iload 10, 2) := by decide +kernel
theorem dJ13_getChars_11360_159 : decode cJ13_getChars_11360 159 = .ok (.bipush (-9), 2) := by decide +kernel
theorem dJ13_getChars_11360_161 : decode cJ13_getChars_11360 161 = .ok (.if_icmp .ge 17, 3) := by decide +kernel
theorem dJ13_getChars_11360_164 : decode cJ13_getChars_11360 164 = .ok (.aload_n 3, 1) := by decide +kernel
theorem dJ13_getChars_11360_165 : decode cJ13_getChars_11360 165 = .ok (.iinc 7 (-1), 3) := by decide +kernel
theorem dJ13_getChars_11360_168 : decode cJ13_getChars_11360 168 = .ok (.iload 7, 2) := by decide +kernel
theorem dJ13_getChars_11360_170 : decode cJ13_getChars_11360 170 = .ok (.getstatic 137, 3) := by decide +kernel
theorem dJ13_getChars_11360_173 : decode cJ13_getChars_11360 173 = .ok (.iload 10, 2) := by decide +kernel
theorem dJ13_getChars_11360_175 : decode cJ13_getChars_11360 175 = .ok (.ineg, 1) := by decide +kernel
theorem dJ13_getChars_11360_176 : decode cJ13_getChars_11360 176 = .ok (.baload, 1) := by decide +kernel
theorem dJ13_getChars_11360_177 : decode cJ13_getChars_11360 177 = .ok (.bastore, 1) := by decide +kernel
theorem dJ13_getChars_11360_178 : decode cJ13_getChars_11360 178 = .ok (.iload 8, 2) := by decide +kernel
theorem dJ13_getChars_11360_180 : decode cJ13_getChars_11360 180 = .ok (.ifCond .eq 12, 3) := by decide +kernel
theorem dJ13_getChars_11360_183 : decode cJ13_getChars_11360 183 = .ok (.aload_n 3, 1) := by decide +kernel
theorem dJ13_getChars_11360_184 : decode cJ13_getChars_11360 184 = .ok (.iinc 7 (-1), 3) := by decide +kernel
theorem dJ13_getChars_11360_187 : decode cJ13_getChars_11360 187 = .ok (.iload 7, 2) := by decide +kernel
theorem dJ13_getChars_11360_189 : decode cJ13_getChars_11360 189 = .ok (.bipush 45, 2) := by decide +kernel
theorem dJ13_getChars_11360_191 : decode cJ13_getChars_11360 191 = .ok (.bastore, 1) := by decide +kernel
theorem dJ13_getChars_11360_192 : decode cJ13_getChars_11360 192 = .ok (.iload 7, 2) := by decide +kernel
theorem dJ13_getChars_11360_194 : decode cJ13_getChars_11360 194 = .ok (.ireturn, 1) := by decide +kernel
theorem dJ13_stringSize_95d88_0 : decode cJ13_stringSize_95d88 0 = .ok (.iconst 1, 1) := by decide +kernel
theorem dJ13_stringSize_95d88_1 : decode cJ13_stringSize_95d88 1 = .ok (.istore_n 2, 1) := by decide +kernel
theorem dJ13_stringSize_95d88_2 : decode cJ13_stringSize_95d88 2 = .ok (.lload_n 0, 1) := by decide +kernel
theorem dJ13_stringSize_95d88_3 : decode cJ13_stringSize_95d88 3 = .ok (.lconst 0, 1) := by decide +kernel
theorem dJ13_stringSize_95d88_4 : decode cJ13_stringSize_95d88 4 = .ok (.lcmp, 1) := by decide +kernel
theorem dJ13_stringSize_95d88_5 : decode cJ13_stringSize_95d88 5 = .ok (.ifCond .lt 8, 3) := by decide +kernel
theorem dJ13_stringSize_95d88_8 : decode cJ13_stringSize_95d88 8 = .ok (.iconst 0, 1) := by decide +kernel
theorem dJ13_stringSize_95d88_9 : decode cJ13_stringSize_95d88 9 = .ok (.istore_n 2, 1) := by decide +kernel
theorem dJ13_stringSize_95d88_10 : decode cJ13_stringSize_95d88 10 = .ok (.lload_n 0, 1) := by decide +kernel
theorem dJ13_stringSize_95d88_11 : decode cJ13_stringSize_95d88 11 = .ok (.lneg, 1) := by decide +kernel
theorem dJ13_stringSize_95d88_12 : decode cJ13_stringSize_95d88 12 = .ok (.lstore_n 0, 1) := by decide +kernel
theorem dJ13_stringSize_95d88_13 : decode cJ13_stringSize_95d88 13 = .ok (.ldc2_w 140, 3) := by decide +kernel
theorem dJ13_stringSize_95d88_16 : decode cJ13_stringSize_95d88 16 = .ok (.lstore_n 3, 1) := by decide +kernel
theorem dJ13_stringSize_95d88_17 : decode cJ13_stringSize_95d88 17 = .ok (.iconst 1, 1) := by decide +kernel
theorem dJ13_stringSize_95d88_18 : decode cJ13_stringSize_95d88 18 = .ok (.istore 5, 2) := by decide +kernel
theorem dJ13_stringSize_95d88_20 : decode cJ13_stringSize_95d88 20 = .ok (.iload 5, 2) := by decide +kernel
theorem dJ13_stringSize_95d88_22 : decode cJ13_stringSize_95d88 22 = .ok (.bipush 19, 2) := by decide +kernel
theorem dJ13_stringSize_95d88_24 : decode cJ13_stringSize_95d88 24 = .ok (.if_icmp .ge 26, 3) := by decide +kernel
theorem dJ13_stringSize_95d88_27 : decode cJ13_stringSize_95d88 27 = .ok (.lload_n 0, 1) := by decide +kernel
theorem dJ13_stringSize_95d88_28 : decode cJ13_stringSize_95d88 28 = .ok (.lload_n 3, 1) := by decide +kernel
theorem dJ13_stringSize_95d88_29 : decode cJ13_stringSize_95d88 29 = .ok (.lcmp, 1) := by decide +kernel
theorem dJ13_stringSize_95d88_30 : decode cJ13_stringSize_95d88 30 = .ok (.ifCond .le 8, 3) := by decide +kernel
theorem dJ13_stringSize_95d88_33 : decode cJ13_stringSize_95d88 33 = .ok (.iload 5, 2) := by decide +kernel
theorem dJ13_stringSize_95d88_35 : decode cJ13_stringSize_95d88 35 = .ok (.iload_n 2, 1) := by decide +kernel
theorem dJ13_stringSize_95d88_36 : decode cJ13_stringSize_95d88 36 = .ok (.iadd, 1) := by decide +kernel
theorem dJ13_stringSize_95d88_37 : decode cJ13_stringSize_95d88 37 = .ok (.ireturn, 1) := by decide +kernel
theorem dJ13_stringSize_95d88_38 : decode cJ13_stringSize_95d88 38 = .ok (.ldc2_w 53, 3) := by decide +kernel
theorem dJ13_stringSize_95d88_41 : decode cJ13_stringSize_95d88 41 = .ok (.lload_n 3, 1) := by decide +kernel
theorem dJ13_stringSize_95d88_42 : decode cJ13_stringSize_95d88 42 = .ok (.lmul, 1) := by decide +kernel
theorem dJ13_stringSize_95d88_43 : decode cJ13_stringSize_95d88 43 = .ok (.lstore_n 3, 1) := by decide +kernel
theorem dJ13_stringSize_95d88_44 : decode cJ13_stringSize_95d88 44 = .ok (.iinc 5 1, 3) := by decide +kernel
theorem dJ13_stringSize_95d88_47 : decode cJ13_stringSize_95d88 47 = .ok (.goto (-27), 3) := by decide +kernel
theorem dJ13_stringSize_95d88_50 : decode cJ13_stringSize_95d88 50 = .ok (.bipush 19, 2) := by decide +kernel
theorem dJ13_stringSize_95d88_52 : decode cJ13_stringSize_95d88 52 = .ok (.iload_n 2, 1) := by decide +kernel
theorem dJ13_stringSize_95d88_53 : decode cJ13_stringSize_95d88 53 = .ok (.iadd, 1) := by decide +kernel
theorem dJ13_stringSize_95d88_54 : decode cJ13_stringSize_95d88 54 = .ok (.ireturn, 1) := by decide +kernel
theorem dJ9_multiplyHigh_f86c9_0 : decode cJ9_multiplyHigh_f86c9 0 = .ok (.lload_n 0, 1) := by decide +kernel
theorem dJ9_multiplyHigh_f86c9_1 : decode cJ9_multiplyHigh_f86c9 1 = .ok (.bipush 32, 2) := by decide +kernel
theorem dJ9_multiplyHigh_f86c9_3 : decode cJ9_multiplyHigh_f86c9 3 = .ok (.lshr, 1) := by decide +kernel
theorem dJ9_multiplyHigh_f86c9_4 : decode cJ9_multiplyHigh_f86c9 4 = .ok (.lstore 4, 2) := by decide +kernel
theorem dJ9_multiplyHigh_f86c9_6 : decode cJ9_multiplyHigh_f86c9 6 = .ok (.lload_n 0, 1) := by decide +kernel
theorem dJ9_multiplyHigh_f86c9_7 : decode cJ9_multiplyHigh_f86c9 7 = .ok (.ldc2_w 138, 3) := by decide +kernel
theorem dJ9_multiplyHigh_f86c9_10 : decode cJ9_multiplyHigh_f86c9 10 = .ok (.land, 1) := by decide +kernel
theorem dJ9_multiplyHigh_f86c9_11 : decode cJ9_multiplyHigh_f86c9 11 = .ok (.lstore 6, 2) := by decide +kernel
theorem dJ9_multiplyHigh_f86c9_13 : decode cJ9_multiplyHigh_f86c9 13 = .ok (.lload_n 2, 1) := by decide +kernel
theorem dJ9_multiplyHigh_f86c9_14 : decode cJ9_multiplyHigh_f86c9 14 = .ok (.bipush 32, 2) := by decide +kernel
theorem dJ9_multiplyHigh_f86c9_16 : decode cJ9_multiplyHigh_f86c9 16 = .ok (.lshr, 1) := by decide +kernel
theorem dJ9_multiplyHigh_f86c9_17 : decode cJ9_multiplyHigh_f86c9 17 = .ok (.lstore 8, 2) := by decide +kernel
theorem dJ9_multiplyHigh_f86c9_19 : decode cJ9_multiplyHigh_f86c9 19 = .ok (.lload_n 2, 1) := by decide +kernel
theorem dJ9_multiplyHigh_f86c9_20 : decode cJ9_multiplyHigh_f86c9 20 = .ok (.ldc2_w 138, 3) := by decide +kernel
theorem dJ9_multiplyHigh_f86c9_23 : decode cJ9_multiplyHigh_f86c9 23 = .ok (.land, 1) := by decide +kernel
theorem dJ9_multiplyHigh_f86c9_24 : decode cJ9_multiplyHigh_f86c9 24 = .ok (.lstore 10, 2) := by decide +kernel
theorem dJ9_multiplyHigh_f86c9_26 : decode cJ9_multiplyHigh_f86c9 26 = .ok (.lload 6, 2) := by decide +kernel
theorem dJ9_multiplyHigh_f86c9_28 : decode cJ9_multiplyHigh_f86c9 28 = .ok (.lload 10, 2) := by decide +kernel
theorem dJ9_multiplyHigh_f86c9_30 : decode cJ9_multiplyHigh_f86c9 30 = .ok (.lmul, 1) := by decide +kernel
theorem dJ9_multiplyHigh_f86c9_31 : decode cJ9_multiplyHigh_f86c9 31 = .ok (.lstore 12, 2) := by decide +kernel
theorem dJ9_multiplyHigh_f86c9_33 : decode cJ9_multiplyHigh_f86c9 33 = .ok (.lload 4, 2) := by decide +kernel
theorem dJ9_multiplyHigh_f86c9_35 : decode cJ9_multiplyHigh_f86c9 35 = .ok (.lload 10, 2) := by decide +kernel
theorem dJ9_multiplyHigh_f86c9_37 : decode cJ9_multiplyHigh_f86c9 37 = .ok (.lmul, 1) := by decide +kernel
theorem dJ9_multiplyHigh_f86c9_38 : decode cJ9_multiplyHigh_f86c9 38 = .ok (.lload 12, 2) := by decide +kernel
theorem dJ9_multiplyHigh_f86c9_40 : decode cJ9_multiplyHigh_f86c9 40 = .ok (.bipush 32, 2) := by decide +kernel
theorem dJ9_multiplyHigh_f86c9_42 : decode cJ9_multiplyHigh_f86c9 42 = .ok (.lushr, 1) := by decide +kernel
theorem dJ9_multiplyHigh_f86c9_43 : decode cJ9_multiplyHigh_f86c9 43 = .ok (.ladd, 1) := by decide +kernel
theorem dJ9_multiplyHigh_f86c9_44 : decode cJ9_multiplyHigh_f86c9 44 = .ok (.lstore 14, 2) := by decide +kernel
theorem dJ9_multiplyHigh_f86c9_46 : decode cJ9_multiplyHigh_f86c9 46 = .ok (.lload 14, 2) := by decide +kernel
theorem dJ9_multiplyHigh_f86c9_48 : decode cJ9_multiplyHigh_f86c9 48 = .ok (.ldc2_w 138, 3) := by decide +kernel
theorem dJ9_multiplyHigh_f86c9_51 : decode cJ9_multiplyHigh_f86c9 51 = .ok (.land, 1) := by decide +kernel
theorem dJ9_multiplyHigh_f86c9_52 : decode cJ9_multiplyHigh_f86c9 52 = .ok (.lstore 16, 2) := by decide +kernel
theorem dJ9_multiplyHigh_f86c9_54 : decode cJ9_multiplyHigh_f86c9 54 = .ok (.lload 14, 2) := by decide +kernel
theorem dJ9_multiplyHigh_f86c9_56 : decode cJ9_multiplyHigh_f86c9 56 = .ok (.bipush 32, 2) := by decide +kernel
theorem dJ9_multiplyHigh_f86c9_58 : decode cJ9_multiplyHigh_f86c9 58 = .ok (.lshr, 1) := by decide +kernel
theorem dJ9_multiplyHigh_f86c9_59 : decode cJ9_multiplyHigh_f86c9 59 = .ok (.lstore 18, 2) := by decide +kernel
theorem dJ9_multiplyHigh_f86c9_61 : decode cJ9_multiplyHigh_f86c9 61 = .ok (.lload 16, 2) := by decide +kernel
theorem dJ9_multiplyHigh_f86c9_63 : decode cJ9_multiplyHigh_f86c9 63 = .ok (.lload 6, 2) := by decide +kernel
theorem dJ9_multiplyHigh_f86c9_65 : decode cJ9_multiplyHigh_f86c9 65 = .ok (.lload 8, 2) := by decide +kernel
theorem dJ9_multiplyHigh_f86c9_67 : decode cJ9_multiplyHigh_f86c9 67 = .ok (.lmul, 1) := by decide +kernel
theorem dJ9_multiplyHigh_f86c9_68 : decode cJ9_multiplyHigh_f86c9 68 = .ok (.ladd, 1) := by decide +kernel
theorem dJ9_multiplyHigh_f86c9_69 : decode cJ9_multiplyHigh_f86c9 69 = .ok (.lstore 16, 2) := by decide +kernel
theorem dJ9_multiplyHigh_f86c9_71 : decode cJ9_multiplyHigh_f86c9 71 = .ok (.lload 4, 2) := by decide +kernel
theorem dJ9_multiplyHigh_f86c9_73 : decode cJ9_multiplyHigh_f86c9 73 = .ok (.lload 8, 2) := by decide +kernel
theorem dJ9_multiplyHigh_f86c9_75 : decode cJ9_multiplyHigh_f86c9 75 = .ok (.lmul, 1) := by decide +kernel
theorem dJ9_multiplyHigh_f86c9_76 : decode cJ9_multiplyHigh_f86c9 76 = .ok (.lload 18, 2) := by decide +kernel
theorem dJ9_multiplyHigh_f86c9_78 : decode cJ9_multiplyHigh_f86c9 78 = .ok (.ladd, 1) := by decide +kernel
theorem dJ9_multiplyHigh_f86c9_79 : decode cJ9_multiplyHigh_f86c9 79 = .ok (.lload 16, 2) := by decide +kernel
theorem dJ9_multiplyHigh_f86c9_81 : decode cJ9_multiplyHigh_f86c9 81 = .ok (.bipush 32, 2) := by decide +kernel
theorem dJ9_multiplyHigh_f86c9_83 : decode cJ9_multiplyHigh_f86c9 83 = .ok (.lshr, 1) := by decide +kernel
theorem dJ9_multiplyHigh_f86c9_84 : decode cJ9_multiplyHigh_f86c9 84 = .ok (.ladd, 1) := by decide +kernel
theorem dJ9_multiplyHigh_f86c9_85 : decode cJ9_multiplyHigh_f86c9 85 = .ok (.lreturn, 1) := by decide +kernel
theorem dJ9_floorDiv_7cf53_0 : decode cJ9_floorDiv_7cf53 0 = .ok (.iload_n 0, 1) := by decide +kernel
theorem dJ9_floorDiv_7cf53_1 : decode cJ9_floorDiv_7cf53 1 = .ok (.iload_n 1, 1) := by decide +kernel
theorem dJ9_floorDiv_7cf53_2 : decode cJ9_floorDiv_7cf53 2 = .ok (.idiv, 1) := by decide +kernel
theorem dJ9_floorDiv_7cf53_3 : decode cJ9_floorDiv_7cf53 3 = .ok (.istore_n 2, 1) := by decide +kernel
theorem dJ9_floorDiv_7cf53_4 : decode cJ9_floorDiv_7cf53 4 = .ok (.iload_n 0, 1) := by decide +kernel
theorem dJ9_floorDiv_7cf53_5 : decode cJ9_floorDiv_7cf53 5 = .ok (.iload_n 1, 1) := by decide +kernel
theorem dJ9_floorDiv_7cf53_6 : decode cJ9_floorDiv_7cf53 6 = .ok (.ixor, 1) := by decide +kernel
theorem dJ9_floorDiv_7cf53_7 : decode cJ9_floorDiv_7cf53 7 = .ok (.ifCond .ge 14, 3) := by decide +kernel
theorem dJ9_floorDiv_7cf53_10 : decode cJ9_floorDiv_7cf53 10 = .ok (.iload_n 2, 1) := by decide +kernel
theorem dJ9_floorDiv_7cf53_11 : decode cJ9_floorDiv_7cf53 11 = .ok (.iload_n 1, 1) := by decide +kernel
theorem dJ9_floorDiv_7cf53_12 : decode cJ9_floorDiv_7cf53 12 = .ok (.imul, 1) := by decide +kernel
theorem dJ9_floorDiv_7cf53_13 : decode cJ9_floorDiv_7cf53 13 = .ok (.iload_n 0, 1) := by decide +kernel
theorem dJ9_floorDiv_7cf53_14 : decode cJ9_floorDiv_7cf53 14 = .ok (.if_icmp .eq 7, 3) := by decide +kernel
theorem dJ9_floorDiv_7cf53_17 : decode cJ9_floorDiv_7cf53 17 = .ok (.iload_n 2, 1) := by decide +kernel
theorem dJ9_floorDiv_7cf53_18 : decode cJ9_floorDiv_7cf53 18 = .ok (.iconst 1, 1) := by decide +kernel
theorem dJ9_floorDiv_7cf53_19 : decode cJ9_floorDiv_7cf53 19 = .ok (.isub, 1) := by decide +kernel
theorem dJ9_floorDiv_7cf53_20 : decode cJ9_floorDiv_7cf53 20 = .ok (.ireturn, 1) := by decide +kernel
theorem dJ9_floorDiv_7cf53_21 : decode cJ9_floorDiv_7cf53 21 = .ok (.iload_n 2, 1) := by decide +kernel
theorem dJ9_floorDiv_7cf53_22 : decode cJ9_floorDiv_7cf53 22 = .ok (.ireturn, 1) := by decide +kernel
theorem dJ9_floorDiv_f86c9_0 : decode cJ9_floorDiv_f86c9 0 = .ok (.lload_n 0, 1) := by decide +kernel
theorem dJ9_floorDiv_f86c9_1 : decode cJ9_floorDiv_f86c9 1 = .ok (.lload_n 2, 1) := by decide +kernel
theorem dJ9_floorDiv_f86c9_2 : decode cJ9_floorDiv_f86c9 2 = .ok (.ldiv, 1) := by decide +kernel
theorem dJ9_floorDiv_f86c9_3 : decode cJ9_floorDiv_f86c9 3 = .ok (.lstore 4, 2) := by decide +kernel
theorem dJ9_floorDiv_f86c9_5 : decode cJ9_floorDiv_f86c9 5 = .ok (.lload_n 0, 1) := by decide +kernel
theorem dJ9_floorDiv_f86c9_6 : decode cJ9_floorDiv_f86c9 6 = .ok (.lload_n 2, 1) := by decide +kernel
theorem dJ9_floorDiv_f86c9_7 : decode cJ9_floorDiv_f86c9 7 = .ok (.lxor, 1) := by decide +kernel
theorem dJ9_floorDiv_f86c9_8 : decode cJ9_floorDiv_f86c9 8 = .ok (.lconst 0, 1) := by decide +kernel
theorem dJ9_floorDiv_f86c9_9 : decode cJ9_floorDiv_f86c9 9 = .ok (.lcmp, 1) := by decide +kernel
theorem dJ9_floorDiv_f86c9_10 : decode cJ9_floorDiv_f86c9 10 = .ok (.ifCond .ge 17, 3) := by decide +kernel
theorem dJ9_floorDiv_f86c9_13 : decode cJ9_floorDiv_f86c9 13 = .ok (.lload 4, 2) := by decide +kernel
theorem dJ9_floorDiv_f86c9_15 : decode cJ9_floorDiv_f86c9 15 = .ok (.lload_n 2, 1) := by decide +kernel
theorem dJ9_floorDiv_f86c9_16 : decode cJ9_floorDiv_f86c9 16 = .ok (.lmul, 1) := by decide +kernel
theorem dJ9_floorDiv_f86c9_17 : decode cJ9_floorDiv_f86c9 17 = .ok (.lload_n 0, 1) := by decide +kernel
theorem dJ9_floorDiv_f86c9_18 : decode cJ9_floorDiv_f86c9 18 = .ok (.lcmp, 1) := by decide +kernel
theorem dJ9_floorDiv_f86c9_19 : decode cJ9_floorDiv_f86c9 19 = .ok (.ifCond .eq 8, 3) := by decide +kernel
theorem dJ9_floorDiv_f86c9_22 : decode cJ9_floorDiv_f86c9 22 = .ok (.lload 4, 2) := by decide +kernel
theorem dJ9_floorDiv_f86c9_24 : decode cJ9_floorDiv_f86c9 24 = .ok (.lconst 1, 1) := by decide +kernel
theorem dJ9_floorDiv_f86c9_25 : decode cJ9_floorDiv_f86c9 25 = .ok (.lsub, 1) := by decide +kernel
theorem dJ9_floorDiv_f86c9_26 : decode cJ9_floorDiv_f86c9 26 = .ok (.lreturn, 1) := by decide +kernel
theorem dJ9_floorDiv_f86c9_27 : decode cJ9_floorDiv_f86c9 27 = .ok (.lload 4, 2) := by decide +kernel
theorem dJ9_floorDiv_f86c9_29 : decode cJ9_floorDiv_f86c9 29 = .ok (.lreturn, 1) := by decide +kernel
theorem dJ9_floorMod_7cf53_0 : decode cJ9_floorMod_7cf53 0 = .ok (.iload_n 0, 1) := by decide +kernel
theorem dJ9_floorMod_7cf53_1 : decode cJ9_floorMod_7cf53 1 = .ok (.iload_n 1, 1) := by decide +kernel
theorem dJ9_floorMod_7cf53_2 : decode cJ9_floorMod_7cf53 2 = .ok (.irem, 1) := by decide +kernel
theorem dJ9_floorMod_7cf53_3 : decode cJ9_floorMod_7cf53 3 = .ok (.istore_n 2, 1) := by decide +kernel
theorem dJ9_floorMod_7cf53_4 : decode cJ9_floorMod_7cf53 4 = .ok (.iload_n 0, 1) := by decide +kernel
theorem dJ9_floorMod_7cf53_5 : decode cJ9_floorMod_7cf53 5 = .ok (.iload_n 1, 1) := by decide +kernel
theorem dJ9_floorMod_7cf53_6 : decode cJ9_floorMod_7cf53 6 = .ok (.ixor, 1) := by decide +kernel
theorem dJ9_floorMod_7cf53_7 : decode cJ9_floorMod_7cf53 7 = .ok (.ifCond .ge 11, 3) := by decide +kernel
theorem dJ9_floorMod_7cf53_10 : decode cJ9_floorMod_7cf53 10 = .ok (.iload_n 2, 1) := by decide +kernel
theorem dJ9_floorMod_7cf53_11 : decode cJ9_floorMod_7cf53 11 = .ok (.ifCond .eq 7, 3) := by decide +kernel
theorem dJ9_floorMod_7cf53_14 : decode cJ9_floorMod_7cf53 14 = .ok (.iload_n 2, 1) := by decide +kernel
theorem dJ9_floorMod_7cf53_15 : decode cJ9_floorMod_7cf53 15 = .ok (.iload_n 1, 1) := by decide +kernel
theorem dJ9_floorMod_7cf53_16 : decode cJ9_floorMod_7cf53 16 = .ok (.iadd, 1) := by decide +kernel
theorem dJ9_floorMod_7cf53_17 : decode cJ9_floorMod_7cf53 17 = .ok (.ireturn, 1) := by decide +kernel
theorem dJ9_floorMod_7cf53_18 : decode cJ9_floorMod_7cf53 18 = .ok (.iload_n 2, 1) := by decide +kernel
theorem dJ9_floorMod_7cf53_19 : decode cJ9_floorMod_7cf53 19 = .ok (.ireturn, 1) := by decide +kernel
theorem dJ9_floorMod_f86c9_0 : decode cJ9_floorMod_f86c9 0 = .ok (.lload_n 0, 1) := by decide +kernel
theorem dJ9_floorMod_f86c9_1 : decode cJ9_floorMod_f86c9 1 = .ok (.lload_n 2, 1) := by decide +kernel
theorem dJ9_floorMod_f86c9_2 : decode cJ9_floorMod_f86c9 2 = .ok (.lrem, 1) := by decide +kernel
theorem dJ9_floorMod_f86c9_3 : decode cJ9_floorMod_f86c9 3 = .ok (.lstore 4, 2) := by decide +kernel
theorem dJ9_floorMod_f86c9_5 : decode cJ9_floorMod_f86c9 5 = .ok (.lload_n 0, 1) := by decide +kernel
theorem dJ9_floorMod_f86c9_6 : decode cJ9_floorMod_f86c9 6 = .ok (.lload_n 2, 1) := by decide +kernel
theorem dJ9_floorMod_f86c9_7 : decode cJ9_floorMod_f86c9 7 = .ok (.lxor, 1) := by decide +kernel
theorem dJ9_floorMod_f86c9_8 : decode cJ9_floorMod_f86c9 8 = .ok (.lconst 0, 1) := by decide +kernel
theorem dJ9_floorMod_f86c9_9 : decode cJ9_floorMod_f86c9 9 = .ok (.lcmp, 1) := by decide +kernel
theorem dJ9_floorMod_f86c9_10 : decode cJ9_floorMod_f86c9 10 = .ok (.ifCond .ge 15, 3) := by decide +kernel
theorem dJ9_floorMod_f86c9_13 : decode cJ9_floorMod_f86c9 13 = .ok (.lload 4, 2) := by decide +kernel
theorem dJ9_floorMod_f86c9_15 : decode cJ9_floorMod_f86c9 15 = .ok (.lconst 0, 1) := by decide +kernel
theorem dJ9_floorMod_f86c9_16 : decode cJ9_floorMod_f86c9 16 = .ok (.lcmp, 1) := by decide +kernel
theorem dJ9_floorMod_f86c9_17 : decode cJ9_floorMod_f86c9 17 = .ok (.ifCond .eq 8, 3) := by decide +kernel
theorem dJ9_floorMod_f86c9_20 : decode cJ9_floorMod_f86c9 20 = .ok (.lload 4, 2) := by decide +kernel
theorem dJ9_floorMod_f86c9_22 : decode cJ9_floorMod_f86c9 22 = .ok (.lload_n 2, 1) := by decide +kernel
theorem dJ9_floorMod_f86c9_23 : decode cJ9_floorMod_f86c9 23 = .ok (.ladd, 1) := by decide +kernel
theorem dJ9_floorMod_f86c9_24 : decode cJ9_floorMod_f86c9 24 = .ok (.lreturn, 1) := by decide +kernel
theorem dJ9_floorMod_f86c9_25 : decode cJ9_floorMod_f86c9 25 = .ok (.lload 4, 2) := by decide +kernel
theorem dJ9_floorMod_f86c9_27 : decode cJ9_floorMod_f86c9 27 = .ok (.lreturn, 1) := by decide +kernel
theorem dJ9_abs_0f7a4_0 : decode cJ9_abs_0f7a4 0 = .ok (.iload_n 0, 1) := by decide +kernel
theorem dJ9_abs_0f7a4_1 : decode cJ9_abs_0f7a4 1 = .ok (.ifCond .ge 8, 3) := by decide +kernel
theorem dJ9_abs_0f7a4_4 : decode cJ9_abs_0f7a4 4 = .ok (.iload_n 0, 1) := by decide +kernel
theorem dJ9_abs_0f7a4_5 : decode cJ9_abs_0f7a4 5 = .ok (.ineg, 1) := by decide +kernel
theorem dJ9_abs_0f7a4_6 : decode cJ9_abs_0f7a4 6 = .ok (.goto 4, 3) := by decide +kernel
theorem dJ9_abs_0f7a4_9 : decode cJ9_abs_0f7a4 9 = .ok (.iload_n 0, 1) := by decide +kernel
theorem dJ9_abs_0f7a4_10 : decode cJ9_abs_0f7a4 10 = .ok (.ireturn, 1) := by decide +kernel
theorem dJ9_max_7cf53_0 : decode cJ9_max_7cf53 0 = .ok (.iload_n 0, 1) := by decide +kernel
theorem dJ9_max_7cf53_1 : decode cJ9_max_7cf53 1 = .ok (.iload_n 1, 1) := by decide +kernel
theorem dJ9_max_7cf53_2 : decode cJ9_max_7cf53 2 = .ok (.if_icmp .lt 7, 3) := by decide +kernel
theorem dJ9_max_7cf53_5 : decode cJ9_max_7cf53 5 = .ok (.iload_n 0, 1) := by decide +kernel
theorem dJ9_max_7cf53_6 : decode cJ9_max_7cf53 6 = .ok (.goto 4, 3) := by decide +kernel
theorem dJ9_max_7cf53_9 : decode cJ9_max_7cf53 9 = .ok (.iload_n 1, 1) := by decide +kernel
theorem dJ9_max_7cf53_10 : decode cJ9_max_7cf53 10 = .ok (.ireturn, 1) := by decide +kernel
theorem dJ9_min_7cf53_0 : decode cJ9_min_7cf53 0 = .ok (.iload_n 0, 1) := by decide +kernel
theorem dJ9_min_7cf53_1 : decode cJ9_min_7cf53 1 = .ok (.iload_n 1, 1) := by decide +kernel
theorem dJ9_min_7cf53_2 : decode cJ9_min_7cf53 2 = .ok (.if_icmp .gt 7, 3) := by decide +kernel
theorem dJ9_min_7cf53_5 : decode cJ9_min_7cf53 5 = .ok (.iload_n 0, 1) := by decide +kernel
theorem dJ9_min_7cf53_6 : decode cJ9_min_7cf53 6 = .ok (.goto 4, 3) := by decide +kernel
theorem dJ9_min_7cf53_9 : decode cJ9_min_7cf53 9 = .ok (.iload_n 1, 1) := by decide +kernel
theorem dJ9_min_7cf53_10 : decode cJ9_min_7cf53 10 = .ok (.ireturn, 1) := by decide +kernel
theorem dJ9_min_f86c9_0 : decode cJ9_min_f86c9 0 = .ok (.lload_n 0, 1) := by decide +kernel
theorem dJ9_min_f86c9_1 : decode cJ9_min_f86c9 1 = .ok (.lload_n 2, 1) := by decide +kernel
theorem dJ9_min_f86c9_2 : decode cJ9_min_f86c9 2 = .ok (.lcmp, 1) := by decide +kernel
theorem dJ9_min_f86c9_3 : decode cJ9_min_f86c9 3 = .ok (.ifCond .gt 7, 3) := by decide +kernel
theorem dJ9_min_f86c9_6 : decode cJ9_min_f86c9 6 = .ok (.lload_n 0, 1) := by decide +kernel
theorem dJ9_min_f86c9_7 : decode cJ9_min_f86c9 7 = .ok (.goto 4, 3) := by decide +kernel
theorem dJ9_min_f86c9_10 : decode cJ9_min_f86c9 10 = .ok (.lload_n 2, 1) := by decide +kernel
theorem dJ9_min_f86c9_11 : decode cJ9_min_f86c9 11 = .ok (.lreturn, 1) := by decide +kernel
theorem dJ0_init_81219_0 : decode cJ0_init_81219 0 = .ok (.aload_n 0, 1) := by decide +kernel
theorem dJ0_init_81219_1 : decode cJ0_init_81219 1 = .ok (.aload_n 1, 1) := by decide +kernel
theorem dJ0_init_81219_2 : decode cJ0_init_81219 2 = .ok (.aconst_null, 1) := by decide +kernel
theorem dJ0_init_81219_3 : decode cJ0_init_81219 3 = .ok (.invokespecial 489, 3) := by decide +kernel
theorem dJ0_init_81219_6 : decode cJ0_init_81219 6 = .ok (.return_, 1) := by decide +kernel
theorem dJ0_length_8abf5_0 : decode cJ0_length_8abf5 0 = .ok (.aload_n 0, 1) := by decide +kernel
theorem dJ0_length_8abf5_1 : decode cJ0_length_8abf5 1 = .ok (.getfield 9, 3) := by decide +kernel
theorem dJ0_length_8abf5_4 : decode cJ0_length_8abf5 4 = .ok (.arraylength, 1) := by decide +kernel
theorem dJ0_length_8abf5_5 : decode cJ0_length_8abf5 5 = .ok (.aload_n 0, 1) := by decide +kernel
theorem dJ0_length_8abf5_6 : decode cJ0_length_8abf5 6 = .ok (.invokevirtual 335, 3) := by decide +kernel
theorem dJ0_length_8abf5_9 : decode cJ0_length_8abf5 9 = .ok (.ishr, 1) := by decide +kernel
theorem dJ0_length_8abf5_10 : decode cJ0_length_8abf5 10 = .ok (.ireturn, 1) := by decide +kernel
theorem dJ0_charAt_5068e_0 : decode cJ0_charAt_5068e 0 = .ok (.aload_n 0, 1) := by decide +kernel
theorem dJ0_charAt_5068e_1 : decode cJ0_charAt_5068e 1 = .ok (.invokevirtual 492, 3) := by decide +kernel
theorem dJ0_charAt_5068e_4 : decode cJ0_charAt_5068e 4 = .ok (.ifCond .eq 12, 3) := by decide +kernel
theorem dJ0_charAt_5068e_7 : decode cJ0_charAt_5068e 7 = .ok (.aload_n 0, 1) := by decide +kernel
theorem dJ0_charAt_5068e_8 : decode cJ0_charAt_5068e 8 = .ok (.getfield 9, 3) := by decide +kernel
theorem dJ0_charAt_5068e_11 : decode cJ0_charAt_5068e 11 = .ok (.iload_n 1, 1) := by decide +kernel
theorem dJ0_charAt_5068e_12 : decode cJ0_charAt_5068e 12 = .ok (.invokestatic 495, 3) := by decide +kernel
theorem dJ0_charAt_5068e_15 : decode cJ0_charAt_5068e 15 = .ok (.ireturn, 1) := by decide +kernel
theorem dJ0_charAt_5068e_16 : decode cJ0_charAt_5068e 16 = .ok (.aload_n 0, 1) := by decide +kernel
theorem dJ0_charAt_5068e_17 : decode cJ0_charAt_5068e 17 = .ok (.getfield 9, 3) := by decide +kernel
theorem dJ0_charAt_5068e_20 : decode cJ0_charAt_5068e 20 = .ok (.iload_n 1, 1) := by decide +kernel
theorem dJ0_charAt_5068e_21 : decode cJ0_charAt_5068e 21 = .ok (.invokestatic 498, 3) := by decide +kernel
theorem dJ0_charAt_5068e_24 : decode cJ0_charAt_5068e 24 = .ok (.ireturn, 1) := by decide +kernel
theorem dJ0_equals_9ea2d_0 : decode cJ0_equals_9ea2d 0 = .ok (.aload_n 0, 1) := by decide +kernel
theorem dJ0_equals_9ea2d_1 : decode cJ0_equals_9ea2d 1 = .ok (.aload_n 1, 1) := by decide +kernel
theorem dJ0_equals_9ea2d_2 : decode cJ0_equals_9ea2d 2 = .ok (.if_acmp .ne 5, 3) := by decide +kernel
theorem dJ0_equals_9ea2d_5 : decode cJ0_equals_9ea2d 5 = .ok (.iconst 1, 1) := by decide +kernel
theorem dJ0_equals_9ea2d_6 : decode cJ0_equals_9ea2d 6 = .ok (.ireturn, 1) := by decide +kernel
theorem dJ0_equals_9ea2d_7 : decode cJ0_equals_9ea2d 7 = .ok (.aload_n 1, 1) := by decide +kernel
theorem dJ0_equals_9ea2d_8 : decode cJ0_equals_9ea2d 8 = .ok (.instanceof 10, 3) := by decide +kernel
theorem dJ0_equals_9ea2d_11 : decode cJ0_equals_9ea2d 11 = .ok (.ifCond .eq 43, 3) := by decide +kernel
theorem dJ0_equals_9ea2d_14 : decode cJ0_equals_9ea2d 14 = .ok (.aload_n 1, 1) := by decide +kernel
theorem dJ0_equals_9ea2d_15 : decode cJ0_equals_9ea2d 15 = .ok (.checkcast 10, 3) := by decide +kernel
theorem dJ0_equals_9ea2d_18 : decode cJ0_equals_9ea2d 18 = .ok (.astore_n 2, 1) := by decide +kernel
theorem dJ0_equals_9ea2d_19 : decode cJ0_equals_9ea2d 19 = .ok (.getstatic 38, 3) := by decide +kernel
theorem dJ0_equals_9ea2d_22 : decode cJ0_equals_9ea2d 22 = .ok (.ifCond .eq 14, 3) := by decide +kernel
theorem dJ0_equals_9ea2d_25 : decode cJ0_equals_9ea2d 25 = .ok (.aload_n 0, 1) := by decide +kernel
theorem dJ0_equals_9ea2d_26 : decode cJ0_equals_9ea2d 26 = .ok (.getfield 15, 3) := by decide +kernel
theorem dJ0_equals_9ea2d_29 : decode cJ0_equals_9ea2d 29 = .ok (.aload_n 2, 1) := by decide +kernel
theorem dJ0_equals_9ea2d_30 : decode cJ0_equals_9ea2d 30 = .ok (.getfield 15, 3) := by decide +kernel
theorem dJ0_equals_9ea2d_33 : decode cJ0_equals_9ea2d 33 = .ok (.if_icmp .ne 21, 3) := by decide +kernel
theorem dJ0_equals_9ea2d_36 : decode cJ0_equals_9ea2d 36 = .ok (.aload_n 0, 1) := by decide +kernel
theorem dJ0_equals_9ea2d_37 : decode cJ0_equals_9ea2d 37 = .ok (.getfield 9, 3) := by decide +kernel
theorem dJ0_equals_9ea2d_40 : decode cJ0_equals_9ea2d 40 = .ok (.aload_n 2, 1) := by decide +kernel
theorem dJ0_equals_9ea2d_41 : decode cJ0_equals_9ea2d 41 = .ok (.getfield 9, 3) := by decide +kernel
theorem dJ0_equals_9ea2d_44 : decode cJ0_equals_9ea2d 44 = .ok (.invokestatic 541, 3) := by decide +kernel
theorem dJ0_equals_9ea2d_47 : decode cJ0_equals_9ea2d 47 = .ok (.ifCond .eq 7, 3) := by decide +kernel
theorem dJ0_equals_9ea2d_50 : decode cJ0_equals_9ea2d 50 = .ok (.iconst 1, 1) := by decide +kernel
theorem dJ0_equals_9ea2d_51 : decode cJ0_equals_9ea2d 51 = .ok (.goto 4, 3) := by decide +kernel
theorem dJ0_equals_9ea2d_54 : decode cJ0_equals_9ea2d 54 = .ok (.iconst 0, 1) := by decide +kernel
theorem dJ0_equals_9ea2d_55 : decode cJ0_equals_9ea2d 55 = .ok (.ireturn, 1) := by decide +kernel
theorem dJ0_getBytes_840e7_0 : decode cJ0_getBytes_840e7 0 = .ok (.aload_n 0, 1) := by decide +kernel
theorem dJ0_getBytes_840e7_1 : decode cJ0_getBytes_840e7 1 = .ok (.invokevirtual 335, 3) := by decide +kernel
theorem dJ0_getBytes_840e7_4 : decode cJ0_getBytes_840e7 4 = .ok (.iload_n 3, 1) := by decide +kernel
theorem dJ0_getBytes_840e7_5 : decode cJ0_getBytes_840e7 5 = .ok (.if_icmp .ne 23, 3) := by decide +kernel
theorem dJ0_getBytes_840e7_8 : decode cJ0_getBytes_840e7 8 = .ok (.aload_n 0, 1) := by decide +kernel
theorem dJ0_getBytes_840e7_9 : decode cJ0_getBytes_840e7 9 = .ok (.getfield 9, 3) := by decide +kernel
theorem dJ0_getBytes_840e7_12 : decode cJ0_getBytes_840e7 12 = .ok (.iconst 0, 1) := by decide +kernel
theorem dJ0_getBytes_840e7_13 : decode cJ0_getBytes_840e7 13 = .ok (.aload_n 1, 1) := by decide +kernel
theorem dJ0_getBytes_840e7_14 : decode cJ0_getBytes_840e7 14 = .ok (.iload_n 2, 1) := by decide +kernel
theorem dJ0_getBytes_840e7_15 : decode cJ0_getBytes_840e7 15 = .ok (.iload_n 3, 1) := by decide +kernel
theorem dJ0_getBytes_840e7_16 : decode cJ0_getBytes_840e7 16 = .ok (.ishl, 1) := by decide +kernel
theorem dJ0_getBytes_840e7_17 : decode cJ0_getBytes_840e7 17 = .ok (.aload_n 0, 1) := by decide +kernel
theorem dJ0_getBytes_840e7_18 : decode cJ0_getBytes_840e7 18 = .ok (.getfield 9, 3) := by decide +kernel
theorem dJ0_getBytes_840e7_21 : decode cJ0_getBytes_840e7 21 = .ok (.arraylength, 1) := by decide +kernel
theorem dJ0_getBytes_840e7_22 : decode cJ0_getBytes_840e7 22 = .ok (.invokestatic 212, 3) := by decide +kernel
theorem dJ0_getBytes_840e7_25 : decode cJ0_getBytes_840e7 25 = .ok (.goto 18, 3) := by decide +kernel
theorem dJ0_getBytes_840e7_28 : decode cJ0_getBytes_840e7 28 = .ok (.aload_n 0, 1) := by decide +kernel
theorem dJ0_getBytes_840e7_29 : decode cJ0_getBytes_840e7 29 = .ok (.getfield 9, 3) := by decide +kernel
theorem dJ0_getBytes_840e7_32 : decode cJ0_getBytes_840e7 32 = .ok (.iconst 0, 1) := by decide +kernel
theorem dJ0_getBytes_840e7_33 : decode cJ0_getBytes_840e7 33 = .ok (.aload_n 1, 1) := by decide +kernel
theorem dJ0_getBytes_840e7_34 : decode cJ0_getBytes_840e7 34 = .ok (.iload_n 2, 1) := by decide +kernel
theorem dJ0_getBytes_840e7_35 : decode cJ0_getBytes_840e7 35 = .ok (.aload_n 0, 1) := by decide +kernel
theorem dJ0_getBytes_840e7_36 : decode cJ0_getBytes_840e7 36 = .ok (.getfield 9, 3) := by decide +kernel
theorem dJ0_getBytes_840e7_39 : decode cJ0_getBytes_840e7 39 = .ok (.arraylength, 1) := by decide +kernel
theorem dJ0_getBytes_840e7_40 : decode cJ0_getBytes_840e7 40 = .ok (.invokestatic 106, 3) := by decide +kernel
theorem dJ0_getBytes_840e7_43 : decode cJ0_getBytes_840e7 43 = .ok (.return_, 1) := by decide +kernel
theorem dJ0_init_db425_0 : decode cJ0_init_db425 0 = .ok (.aload_n 0, 1) := by decide +kernel
theorem dJ0_init_db425_1 : decode cJ0_init_db425 1 = .ok (.invokespecial 1, 3) := by decide +kernel
theorem dJ0_init_db425_4 : decode cJ0_init_db425 4 = .ok (.aload_n 1, 1) := by decide +kernel
theorem dJ0_init_db425_5 : decode cJ0_init_db425 5 = .ok (.invokevirtual 552, 3) := by decide +kernel
theorem dJ0_init_db425_8 : decode cJ0_init_db425 8 = .ok (.astore_n 3, 1) := by decide +kernel
theorem dJ0_init_db425_9 : decode cJ0_init_db425 9 = .ok (.aload_n 1, 1) := by decide +kernel
theorem dJ0_init_db425_10 : decode cJ0_init_db425 10 = .ok (.invokevirtual 549, 3) := by decide +kernel
theorem dJ0_init_db425_13 : decode cJ0_init_db425 13 = .ok (.istore 4, 2) := by decide +kernel
theorem dJ0_init_db425_15 : decode cJ0_init_db425 15 = .ok (.aload_n 1, 1) := by decide +kernel
theorem dJ0_init_db425_16 : decode cJ0_init_db425 16 = .ok (.invokevirtual 1047, 3) := by decide +kernel
theorem dJ0_init_db425_19 : decode cJ0_init_db425 19 = .ok (.ifCond .eq 22, 3) := by decide +kernel
theorem dJ0_init_db425_22 : decode cJ0_init_db425 22 = .ok (.aload_n 0, 1) := by decide +kernel
theorem dJ0_init_db425_23 : decode cJ0_init_db425 23 = .ok (.iconst 0, 1) := by decide +kernel
theorem dJ0_init_db425_24 : decode cJ0_init_db425 24 = .ok (.putfield 15, 3) := by decide +kernel
theorem dJ0_init_db425_27 : decode cJ0_init_db425 27 = .ok (.aload_n 0, 1) := by decide +kernel
theorem dJ0_init_db425_28 : decode cJ0_init_db425 28 = .ok (.aload_n 3, 1) := by decide +kernel
theorem dJ0_init_db425_29 : decode cJ0_init_db425 29 = .ok (.iconst 0, 1) := by decide +kernel
theorem dJ0_init_db425_30 : decode cJ0_init_db425 30 = .ok (.iload 4, 2) := by decide +kernel
theorem dJ0_init_db425_32 : decode cJ0_init_db425 32 = .ok (.invokestatic 54, 3) := by decide +kernel
theorem dJ0_init_db425_35 : decode cJ0_init_db425 35 = .ok (.putfield 9, 3) := by decide +kernel
theorem dJ0_init_db425_38 : decode cJ0_init_db425 38 = .ok (.goto 59, 3) := by decide +kernel
theorem dJ0_init_db425_41 : decode cJ0_init_db425 41 = .ok (.getstatic 38, 3) := by decide +kernel
theorem dJ0_init_db425_44 : decode cJ0_init_db425 44 = .ok (.ifCond .eq 35, 3) := by decide +kernel
theorem dJ0_init_db425_47 : decode cJ0_init_db425 47 = .ok (.aload_n 1, 1) := by decide +kernel
theorem dJ0_init_db425_48 : decode cJ0_init_db425 48 = .ok (.getfield 1048, 3) := by decide +kernel
theorem dJ0_init_db425_51 : decode cJ0_init_db425 51 = .ok (.ifCond .eq 28, 3) := by decide +kernel
theorem dJ0_init_db425_54 : decode cJ0_init_db425 54 = .ok (.aload_n 0, 1) := by decide +kernel
theorem dJ0_init_db425_55 : decode cJ0_init_db425 55 = .ok (.aload_n 3, 1) := by decide +kernel
theorem dJ0_init_db425_56 : decode cJ0_init_db425 56 = .ok (.iconst 0, 1) := by decide +kernel
theorem dJ0_init_db425_57 : decode cJ0_init_db425 57 = .ok (.iload 4, 2) := by decide +kernel
theorem dJ0_init_db425_59 : decode cJ0_init_db425 59 = .ok (.invokestatic 1051, 3) := by decide +kernel
theorem dJ0_init_db425_62 : decode cJ0_init_db425 62 = .ok (.putfield 9, 3) := by decide +kernel
theorem dJ0_init_db425_65 : decode cJ0_init_db425 65 = .ok (.aload_n 0, 1) := by decide +kernel
theorem dJ0_init_db425_66 : decode cJ0_init_db425 66 = .ok (.aload_n 0, 1) := by decide +kernel
theorem dJ0_init_db425_67 : decode cJ0_init_db425 67 = .ok (.getfield 9, 3) := by decide +kernel
theorem dJ0_init_db425_70 : decode cJ0_init_db425 70 = .ok (.iload 4, 2) := by decide +kernel
theorem dJ0_init_db425_72 : decode cJ0_init_db425 72 = .ok (.invokestatic 47, 3) := by decide +kernel
theorem dJ0_init_db425_75 : decode cJ0_init_db425 75 = .ok (.putfield 15, 3) := by decide +kernel
theorem dJ0_init_db425_78 : decode cJ0_init_db425 78 = .ok (.return_, 1) := by decide +kernel
theorem dJ0_init_db425_79 : decode cJ0_init_db425 79 = .ok (.aload_n 0, 1) := by decide +kernel
theorem dJ0_init_db425_80 : decode cJ0_init_db425 80 = .ok (.iconst 1, 1) := by decide +kernel
theorem dJ0_init_db425_81 : decode cJ0_init_db425 81 = .ok (.putfield 15, 3) := by decide +kernel
theorem dJ0_init_db425_84 : decode cJ0_init_db425 84 = .ok (.aload_n 0, 1) := by decide +kernel
theorem dJ0_init_db425_85 : decode cJ0_init_db425 85 = .ok (.aload_n 3, 1) := by decide +kernel
theorem dJ0_init_db425_86 : decode cJ0_init_db425 86 = .ok (.iconst 0, 1) := by decide +kernel
theorem dJ0_init_db425_87 : decode cJ0_init_db425 87 = .ok (.iload 4, 2) := by decide +kernel
theorem dJ0_init_db425_89 : decode cJ0_init_db425 89 = .ok (.iconst 1, 1) := by decide +kernel
theorem dJ0_init_db425_90 : decode cJ0_init_db425 90 = .ok (.ishl, 1) := by decide +kernel
theorem dJ0_init_db425_91 : decode cJ0_init_db425 91 = .ok (.invokestatic 54, 3) := by decide +kernel
theorem dJ0_init_db425_94 : decode cJ0_init_db425 94 = .ok (.putfield 9, 3) := by decide +kernel
theorem dJ0_init_db425_97 : decode cJ0_init_db425 97 = .ok (.return_, 1) := by decide +kernel
theorem dJ0_coder_7d493_0 : decode cJ0_coder_7d493 0 = .ok (.getstatic 38, 3) := by decide +kernel
theorem dJ0_coder_7d493_3 : decode cJ0_coder_7d493 3 = .ok (.ifCond .eq 10, 3) := by decide +kernel
theorem dJ0_coder_7d493_6 : decode cJ0_coder_7d493 6 = .ok (.aload_n 0, 1) := by decide +kernel
theorem dJ0_coder_7d493_7 : decode cJ0_coder_7d493 7 = .ok (.getfield 15, 3) := by decide +kernel
theorem dJ0_coder_7d493_10 : decode cJ0_coder_7d493 10 = .ok (.goto 4, 3) := by decide +kernel
theorem dJ0_coder_7d493_13 : decode cJ0_coder_7d493 13 = .ok (.iconst 1, 1) := by decide +kernel
theorem dJ0_coder_7d493_14 : decode cJ0_coder_7d493 14 = .ok (.ireturn, 1) := by decide +kernel
theorem dJ0_value_6d5f1_0 : decode cJ0_value_6d5f1 0 = .ok (.aload_n 0, 1) := by decide +kernel
theorem dJ0_value_6d5f1_1 : decode cJ0_value_6d5f1 1 = .ok (.getfield 9, 3) := by decide +kernel
theorem dJ0_value_6d5f1_4 : decode cJ0_value_6d5f1 4 = .ok (.areturn, 1) := by decide +kernel
theorem dJ0_isLatin1_aae02_0 : decode cJ0_isLatin1_aae02 0 = .ok (.getstatic 38, 3) := by decide +kernel
theorem dJ0_isLatin1_aae02_3 : decode cJ0_isLatin1_aae02 3 = .ok (.ifCond .eq 14, 3) := by decide +kernel
theorem dJ0_isLatin1_aae02_6 : decode cJ0_isLatin1_aae02 6 = .ok (.aload_n 0, 1) := by decide +kernel
theorem dJ0_isLatin1_aae02_7 : decode cJ0_isLatin1_aae02 7 = .ok (.getfield 15, 3) := by decide +kernel
theorem dJ0_isLatin1_aae02_10 : decode cJ0_isLatin1_aae02 10 = .ok (.ifCond .ne 7, 3) := by decide +kernel
theorem dJ0_isLatin1_aae02_13 : decode cJ0_isLatin1_aae02 13 = .ok (.iconst 1, 1) := by decide +kernel
theorem dJ0_isLatin1_aae02_14 : decode cJ0_isLatin1_aae02 14 = .ok (.goto 4, 3) := by decide +kernel
theorem dJ0_isLatin1_aae02_17 : decode cJ0_isLatin1_aae02 17 = .ok (.iconst 0, 1) := by decide +kernel
theorem dJ0_isLatin1_aae02_18 : decode cJ0_isLatin1_aae02 18 = .ok (.ireturn, 1) := by decide +kernel
theorem dJ0_checkIndex_df160_0 : decode cJ0_checkIndex_df160 0 = .ok (.iload_n 0, 1) := by decide +kernel
theorem dJ0_checkIndex_df160_1 : decode cJ0_checkIndex_df160 1 = .ok (.iload_n 1, 1) := by decide +kernel
theorem dJ0_checkIndex_df160_2 : decode cJ0_checkIndex_df160 2 = .ok (.getstatic 1053, 3) := by decide +kernel
theorem dJ0_checkIndex_df160_5 : decode cJ0_checkIndex_df160 5 = .ok (.invokestatic 1059, 3) := by decide +kernel
theorem dJ0_checkIndex_df160_8 : decode cJ0_checkIndex_df160 8 = .ok (.pop, 1) := by decide +kernel
theorem dJ0_checkIndex_df160_9 : decode cJ0_checkIndex_df160 9 = .ok (.return_, 1) := by decide +kernel
theorem dJ0_checkBoundsOffCount_cabcc_0 : decode cJ0_checkBoundsOffCount_cabcc 0 = .ok (.iload_n 0, 1) := by decide +kernel
theorem dJ0_checkBoundsOffCount_cabcc_1 : decode cJ0_checkBoundsOffCount_cabcc 1 = .ok (.iload_n 1, 1) := by decide +kernel
theorem dJ0_checkBoundsOffCount_cabcc_2 : decode cJ0_checkBoundsOffCount_cabcc 2 = .ok (.iload_n 2, 1) := by decide +kernel
theorem dJ0_checkBoundsOffCount_cabcc_3 : decode cJ0_checkBoundsOffCount_cabcc 3 = .ok (.getstatic 1053, 3) := by decide +kernel
theorem dJ0_checkBoundsOffCount_cabcc_6 : decode cJ0_checkBoundsOffCount_cabcc 6 = .ok (.invokestatic 1065, 3) := by decide +kernel
theorem dJ0_checkBoundsOffCount_cabcc_9 : decode cJ0_checkBoundsOffCount_cabcc 9 = .ok (.ireturn, 1) := by decide +kernel
theorem dJ0_checkBoundsBeginEnd_23922_0 : decode cJ0_checkBoundsBeginEnd_23922 0 = .ok (.iload_n 0, 1) := by decide +kernel
theorem dJ0_checkBoundsBeginEnd_23922_1 : decode cJ0_checkBoundsBeginEnd_23922 1 = .ok (.iload_n 1, 1) := by decide +kernel
theorem dJ0_checkBoundsBeginEnd_23922_2 : decode cJ0_checkBoundsBeginEnd_23922 2 = .ok (.iload_n 2, 1) := by decide +kernel
theorem dJ0_checkBoundsBeginEnd_23922_3 : decode cJ0_checkBoundsBeginEnd_23922 3 = .ok (.getstatic 1053, 3) := by decide +kernel
theorem dJ0_checkBoundsBeginEnd_23922_6 : decode cJ0_checkBoundsBeginEnd_23922 6 = .ok (.invokestatic 1062, 3) := by decide +kernel
theorem dJ0_checkBoundsBeginEnd_23922_9 : decode cJ0_checkBoundsBeginEnd_23922 9 = .ok (.pop, 1) := by decide +kernel
theorem dJ0_checkBoundsBeginEnd_23922_10 : decode cJ0_checkBoundsBeginEnd_23922 10 = .ok (.return_, 1) := by decide +kernel
theorem dJxe8eeb_append_b568b_0 : decode cJxe8eeb_append_b568b 0 = .ok (.aload_n 0, 1) := by decide +kernel
theorem dJxe8eeb_append_b568b_1 : decode cJxe8eeb_append_b568b 1 = .ok (.aconst_null, 1) := by decide +kernel
theorem dJxe8eeb_append_b568b_2 : decode cJxe8eeb_append_b568b 2 = .ok (.putfield 34, 3) := by decide +kernel
theorem dJxe8eeb_append_b568b_5 : decode cJxe8eeb_append_b568b 5 = .ok (.aload_n 0, 1) := by decide +kernel
theorem dJxe8eeb_append_b568b_6 : decode cJxe8eeb_append_b568b 6 = .ok (.aload_n 1, 1) := by decide +kernel
theorem dJxe8eeb_append_b568b_7 : decode cJxe8eeb_append_b568b 7 = .ok (.invokespecial 89, 3) := by decide +kernel
theorem dJxe8eeb_append_b568b_10 : decode cJxe8eeb_append_b568b 10 = .ok (.pop, 1) := by decide +kernel
theorem dJxe8eeb_append_b568b_11 : decode cJxe8eeb_append_b568b 11 = .ok (.aload_n 0, 1) := by decide +kernel
theorem dJxe8eeb_append_b568b_12 : decode cJxe8eeb_append_b568b 12 = .ok (.areturn, 1) := by decide +kernel
theorem dJ4_init_da8c8_0 : decode cJ4_init_da8c8 0 = .ok (.aload_n 0, 1) := by decide +kernel
theorem dJ4_init_da8c8_1 : decode cJ4_init_da8c8 1 = .ok (.bipush 16, 2) := by decide +kernel
theorem dJ4_init_da8c8_3 : decode cJ4_init_da8c8 3 = .ok (.invokespecial 1, 3) := by decide +kernel
theorem dJ4_init_da8c8_6 : decode cJ4_init_da8c8 6 = .ok (.return_, 1) := by decide +kernel
theorem dJ4_append_15ec4_0 : decode cJ4_append_15ec4 0 = .ok (.aload_n 0, 1) := by decide +kernel
theorem dJ4_append_15ec4_1 : decode cJ4_append_15ec4 1 = .ok (.aload_n 1, 1) := by decide +kernel
theorem dJ4_append_15ec4_2 : decode cJ4_append_15ec4 2 = .ok (.invokespecial 29, 3) := by decide +kernel
theorem dJ4_append_15ec4_5 : decode cJ4_append_15ec4 5 = .ok (.pop, 1) := by decide +kernel
theorem dJ4_append_15ec4_6 : decode cJ4_append_15ec4 6 = .ok (.aload_n 0, 1) := by decide +kernel
theorem dJ4_append_15ec4_7 : decode cJ4_append_15ec4 7 = .ok (.areturn, 1) := by decide +kernel
theorem dJ4_append_1fab5_0 : decode cJ4_append_1fab5 0 = .ok (.aload_n 0, 1) := by decide +kernel
theorem dJ4_append_1fab5_1 : decode cJ4_append_1fab5 1 = .ok (.aload_n 1, 1) := by decide +kernel
theorem dJ4_append_1fab5_2 : decode cJ4_append_1fab5 2 = .ok (.invokespecial 35, 3) := by decide +kernel
theorem dJ4_append_1fab5_5 : decode cJ4_append_1fab5 5 = .ok (.pop, 1) := by decide +kernel
theorem dJ4_append_1fab5_6 : decode cJ4_append_1fab5 6 = .ok (.aload_n 0, 1) := by decide +kernel
theorem dJ4_append_1fab5_7 : decode cJ4_append_1fab5 7 = .ok (.areturn, 1) := by decide +kernel
theorem dJ4_append_69d29_0 : decode cJ4_append_69d29 0 = .ok (.aload_n 0, 1) := by decide +kernel
theorem dJ4_append_69d29_1 : decode cJ4_append_69d29 1 = .ok (.aload_n 1, 1) := by decide +kernel
theorem dJ4_append_69d29_2 : decode cJ4_append_69d29 2 = .ok (.iload_n 2, 1) := by decide +kernel
theorem dJ4_append_69d29_3 : decode cJ4_append_69d29 3 = .ok (.iload_n 3, 1) := by decide +kernel
theorem dJ4_append_69d29_4 : decode cJ4_append_69d29 4 = .ok (.invokespecial 38, 3) := by decide +kernel
theorem dJ4_append_69d29_7 : decode cJ4_append_69d29 7 = .ok (.pop, 1) := by decide +kernel
theorem dJ4_append_69d29_8 : decode cJ4_append_69d29 8 = .ok (.aload_n 0, 1) := by decide +kernel
theorem dJ4_append_69d29_9 : decode cJ4_append_69d29 9 = .ok (.areturn, 1) := by decide +kernel
theorem dJ4_append_37e8c_0 : decode cJ4_append_37e8c 0 = .ok (.aload_n 0, 1) := by decide +kernel
theorem dJ4_append_37e8c_1 : decode cJ4_append_37e8c 1 = .ok (.aload_n 1, 1) := by decide +kernel
theorem dJ4_append_37e8c_2 : decode cJ4_append_37e8c 2 = .ok (.invokespecial 41, 3) := by decide +kernel
theorem dJ4_append_37e8c_5 : decode cJ4_append_37e8c 5 = .ok (.pop, 1) := by decide +kernel
theorem dJ4_append_37e8c_6 : decode cJ4_append_37e8c 6 = .ok (.aload_n 0, 1) := by decide +kernel
theorem dJ4_append_37e8c_7 : decode cJ4_append_37e8c 7 = .ok (.areturn, 1) := by decide +kernel
theorem dJ4_append_cf468_0 : decode cJ4_append_cf468 0 = .ok (.aload_n 0, 1) := by decide +kernel
theorem dJ4_append_cf468_1 : decode cJ4_append_cf468 1 = .ok (.iload_n 1, 1) := by decide +kernel
theorem dJ4_append_cf468_2 : decode cJ4_append_cf468 2 = .ok (.invokespecial 50, 3) := by decide +kernel
theorem dJ4_append_cf468_5 : decode cJ4_append_cf468 5 = .ok (.pop, 1) := by decide +kernel
theorem dJ4_append_cf468_6 : decode cJ4_append_cf468 6 = .ok (.aload_n 0, 1) := by decide +kernel
theorem dJ4_append_cf468_7 : decode cJ4_append_cf468 7 = .ok (.areturn, 1) := by decide +kernel
theorem dJ4_append_bf812_0 : decode cJ4_append_bf812 0 = .ok (.aload_n 0, 1) := by decide +kernel
theorem dJ4_append_bf812_1 : decode cJ4_append_bf812 1 = .ok (.iload_n 1, 1) := by decide +kernel
theorem dJ4_append_bf812_2 : decode cJ4_append_bf812 2 = .ok (.invokespecial 53, 3) := by decide +kernel
theorem dJ4_append_bf812_5 : decode cJ4_append_bf812 5 = .ok (.pop, 1) := by decide +kernel
theorem dJ4_append_bf812_6 : decode cJ4_append_bf812 6 = .ok (.aload_n 0, 1) := by decide +kernel
theorem dJ4_append_bf812_7 : decode cJ4_append_bf812 7 = .ok (.areturn, 1) := by decide +kernel
theorem dJ4_append_f7089_0 : decode cJ4_append_f7089 0 = .ok (.aload_n 0, 1) := by decide +kernel
theorem dJ4_append_f7089_1 : decode cJ4_append_f7089 1 = .ok (.lload_n 1, 1) := by decide +kernel
theorem dJ4_append_f7089_2 : decode cJ4_append_f7089 2 = .ok (.invokespecial 56, 3) := by decide +kernel
theorem dJ4_append_f7089_5 : decode cJ4_append_f7089 5 = .ok (.pop, 1) := by decide +kernel
theorem dJ4_append_f7089_6 : decode cJ4_append_f7089 6 = .ok (.aload_n 0, 1) := by decide +kernel
theorem dJ4_append_f7089_7 : decode cJ4_append_f7089 7 = .ok (.areturn, 1) := by decide +kernel
theorem dJ4_append_9d4c8_0 : decode cJ4_append_9d4c8 0 = .ok (.aload_n 0, 1) := by decide +kernel
theorem dJ4_append_9d4c8_1 : decode cJ4_append_9d4c8 1 = .ok (.fload_n 1, 1) := by decide +kernel
theorem dJ4_append_9d4c8_2 : decode cJ4_append_9d4c8 2 = .ok (.invokespecial 59, 3) := by decide +kernel
theorem dJ4_append_9d4c8_5 : decode cJ4_append_9d4c8 5 = .ok (.pop, 1) := by decide +kernel
theorem dJ4_append_9d4c8_6 : decode cJ4_append_9d4c8 6 = .ok (.aload_n 0, 1) := by decide +kernel
theorem dJ4_append_9d4c8_7 : decode cJ4_append_9d4c8 7 = .ok (.areturn, 1) := by decide +kernel
theorem dJ4_toString_0e30d_0 : decode cJ4_toString_0e30d 0 = .ok (.new 18, 3) := by decide +kernel
theorem dJ4_toString_0e30d_3 : decode cJ4_toString_0e30d 3 = .ok (.dup, 1) := by decide +kernel
theorem dJ4_toString_0e30d_4 : decode cJ4_toString_0e30d 4 = .ok (.aload_n 0, 1) := by decide +kernel
theorem dJ4_toString_0e30d_5 : decode cJ4_toString_0e30d 5 = .ok (.invokespecial 137, 3) := by decide +kernel
theorem dJ4_toString_0e30d_8 : decode cJ4_toString_0e30d 8 = .ok (.areturn, 1) := by decide +kernel
theorem dJ4_append_e1f22_0 : decode cJ4_append_e1f22 0 = .ok (.aload_n 0, 1) := by decide +kernel
theorem dJ4_append_e1f22_1 : decode cJ4_append_e1f22 1 = .ok (.aload_n 1, 1) := by decide +kernel
theorem dJ4_append_e1f22_2 : decode cJ4_append_e1f22 2 = .ok (.iload_n 2, 1) := by decide +kernel
theorem dJ4_append_e1f22_3 : decode cJ4_append_e1f22 3 = .ok (.iload_n 3, 1) := by decide +kernel
theorem dJ4_append_e1f22_4 : decode cJ4_append_e1f22 4 = .ok (.invokevirtual 296, 3) := by decide +kernel
theorem dJ4_append_e1f22_7 : decode cJ4_append_e1f22 7 = .ok (.areturn, 1) := by decide +kernel
theorem dJ4_append_cf1ce_0 : decode cJ4_append_cf1ce 0 = .ok (.aload_n 0, 1) := by decide +kernel
theorem dJ4_append_cf1ce_1 : decode cJ4_append_cf1ce 1 = .ok (.aload_n 1, 1) := by decide +kernel
theorem dJ4_append_cf1ce_2 : decode cJ4_append_cf1ce 2 = .ok (.invokevirtual 23, 3) := by decide +kernel
theorem dJ4_append_cf1ce_5 : decode cJ4_append_cf1ce 5 = .ok (.areturn, 1) := by decide +kernel
theorem dJ4_charAt_5068e_0 : decode cJ4_charAt_5068e 0 = .ok (.aload_n 0, 1) := by decide +kernel
theorem dJ4_charAt_5068e_1 : decode cJ4_charAt_5068e 1 = .ok (.iload_n 1, 1) := by decide +kernel
theorem dJ4_charAt_5068e_2 : decode cJ4_charAt_5068e 2 = .ok (.invokespecial 329, 3) := by decide +kernel
theorem dJ4_charAt_5068e_5 : decode cJ4_charAt_5068e 5 = .ok (.ireturn, 1) := by decide +kernel
theorem dJ4_length_8abf5_0 : decode cJ4_length_8abf5 0 = .ok (.aload_n 0, 1) := by decide +kernel
theorem dJ4_length_8abf5_1 : decode cJ4_length_8abf5 1 = .ok (.invokespecial 343, 3) := by decide +kernel
theorem dJ4_length_8abf5_4 : decode cJ4_length_8abf5 4 = .ok (.ireturn, 1) := by decide +kernel
theorem dJ4_append_b3078_0 : decode cJ4_append_b3078 0 = .ok (.aload_n 0, 1) := by decide +kernel
theorem dJ4_append_b3078_1 : decode cJ4_append_b3078 1 = .ok (.iload_n 1, 1) := by decide +kernel
theorem dJ4_append_b3078_2 : decode cJ4_append_b3078 2 = .ok (.invokevirtual 284, 3) := by decide +kernel
theorem dJ4_append_b3078_5 : decode cJ4_append_b3078 5 = .ok (.areturn, 1) := by decide +kernel
theorem dJ4_append_996db_0 : decode cJ4_append_996db 0 = .ok (.aload_n 0, 1) := by decide +kernel
theorem dJ4_append_996db_1 : decode cJ4_append_996db 1 = .ok (.aload_n 1, 1) := by decide +kernel
theorem dJ4_append_996db_2 : decode cJ4_append_996db 2 = .ok (.invokevirtual 299, 3) := by decide +kernel
theorem dJ4_append_996db_5 : decode cJ4_append_996db 5 = .ok (.areturn, 1) := by decide +kernel
theorem dJ1_charAt_3b067_0 : decode cJ1_charAt_3b067 0 = .ok (.iload_n 1, 1) := by decide +kernel
theorem dJ1_charAt_3b067_1 : decode cJ1_charAt_3b067 1 = .ok (.aload_n 0, 1) := by decide +kernel
theorem dJ1_charAt_3b067_2 : decode cJ1_charAt_3b067 2 = .ok (.arraylength, 1) := by decide +kernel
theorem dJ1_charAt_3b067_3 : decode cJ1_charAt_3b067 3 = .ok (.invokestatic 9, 3) := by decide +kernel
theorem dJ1_charAt_3b067_6 : decode cJ1_charAt_3b067 6 = .ok (.aload_n 0, 1) := by decide +kernel
theorem dJ1_charAt_3b067_7 : decode cJ1_charAt_3b067 7 = .ok (.iload_n 1, 1) := by decide +kernel
theorem dJ1_charAt_3b067_8 : decode cJ1_charAt_3b067 8 = .ok (.baload, 1) := by decide +kernel
theorem dJ1_charAt_3b067_9 : decode cJ1_charAt_3b067 9 = .ok (.sipush 255, 3) := by decide +kernel
theorem dJ1_charAt_3b067_12 : decode cJ1_charAt_3b067 12 = .ok (.iand, 1) := by decide +kernel
theorem dJ1_charAt_3b067_13 : decode cJ1_charAt_3b067 13 = .ok (.i2c, 1) := by decide +kernel
theorem dJ1_charAt_3b067_14 : decode cJ1_charAt_3b067 14 = .ok (.ireturn, 1) := by decide +kernel
theorem dJ1_canEncode_fc78d_0 : decode cJ1_canEncode_fc78d 0 = .ok (.iload_n 0, 1) := by decide +kernel
theorem dJ1_canEncode_fc78d_1 : decode cJ1_canEncode_fc78d 1 = .ok (.sipush 255, 3) := by decide +kernel
theorem dJ1_canEncode_fc78d_4 : decode cJ1_canEncode_fc78d 4 = .ok (.if_icmp .gt 7, 3) := by decide +kernel
theorem dJ1_canEncode_fc78d_7 : decode cJ1_canEncode_fc78d 7 = .ok (.iconst 1, 1) := by decide +kernel
theorem dJ1_canEncode_fc78d_8 : decode cJ1_canEncode_fc78d 8 = .ok (.goto 4, 3) := by decide +kernel
theorem dJ1_canEncode_fc78d_11 : decode cJ1_canEncode_fc78d 11 = .ok (.iconst 0, 1) := by decide +kernel
theorem dJ1_canEncode_fc78d_12 : decode cJ1_canEncode_fc78d 12 = .ok (.ireturn, 1) := by decide +kernel
theorem dJ1_equals_b5fdf_0 : decode cJ1_equals_b5fdf 0 = .ok (.aload_n 0, 1) := by decide +kernel
theorem dJ1_equals_b5fdf_1 : decode cJ1_equals_b5fdf 1 = .ok (.arraylength, 1) := by decide +kernel
theorem dJ1_equals_b5fdf_2 : decode cJ1_equals_b5fdf 2 = .ok (.aload_n 1, 1) := by decide +kernel
theorem dJ1_equals_b5fdf_3 : decode cJ1_equals_b5fdf 3 = .ok (.arraylength, 1) := by decide +kernel
theorem dJ1_equals_b5fdf_4 : decode cJ1_equals_b5fdf 4 = .ok (.if_icmp .ne 30, 3) := by decide +kernel
theorem dJ1_equals_b5fdf_7 : decode cJ1_equals_b5fdf 7 = .ok (.iconst 0, 1) := by decide +kernel
theorem dJ1_equals_b5fdf_8 : decode cJ1_equals_b5fdf 8 = .ok (.istore_n 2, 1) := by decide +kernel
theorem dJ1_equals_b5fdf_9 : decode cJ1_equals_b5fdf 9 = .ok (.iload_n 2, 1) := by decide +kernel
theorem dJ1_equals_b5fdf_10 : decode cJ1_equals_b5fdf 10 = .ok (.aload_n 0, 1) := by decide +kernel
theorem dJ1_equals_b5fdf_11 : decode cJ1_equals_b5fdf 11 = .ok (.arraylength, 1) := by decide +kernel
theorem dJ1_equals_b5fdf_12 : decode cJ1_equals_b5fdf 12 = .ok (.if_icmp .ge 20, 3) := by decide +kernel
theorem dJ1_equals_b5fdf_15 : decode cJ1_equals_b5fdf 15 = .ok (.aload_n 0, 1) := by decide +kernel
theorem dJ1_equals_b5fdf_16 : decode cJ1_equals_b5fdf 16 = .ok (.iload_n 2, 1) := by decide +kernel
theorem dJ1_equals_b5fdf_17 : decode cJ1_equals_b5fdf 17 = .ok (.baload, 1) := by decide +kernel
theorem dJ1_equals_b5fdf_18 : decode cJ1_equals_b5fdf 18 = .ok (.aload_n 1, 1) := by decide +kernel
theorem dJ1_equals_b5fdf_19 : decode cJ1_equals_b5fdf 19 = .ok (.iload_n 2, 1) := by decide +kernel
theorem dJ1_equals_b5fdf_20 : decode cJ1_equals_b5fdf 20 = .ok (.baload, 1) := by decide +kernel
theorem dJ1_equals_b5fdf_21 : decode cJ1_equals_b5fdf 21 = .ok (.if_icmp .eq 5, 3) := by decide +kernel
theorem dJ1_equals_b5fdf_24 : decode cJ1_equals_b5fdf 24 = .ok (.iconst 0, 1) := by decide +kernel
theorem dJ1_equals_b5fdf_25 : decode cJ1_equals_b5fdf 25 = .ok (.ireturn, 1) := by decide +kernel
theorem dJ1_equals_b5fdf_26 : decode cJ1_equals_b5fdf 26 = .ok (.iinc 2 1, 3) := by decide +kernel
theorem dJ1_equals_b5fdf_29 : decode cJ1_equals_b5fdf 29 = .ok (.goto (-20), 3) := by decide +kernel
theorem dJ1_equals_b5fdf_32 : decode cJ1_equals_b5fdf 32 = .ok (.iconst 1, 1) := by decide +kernel
theorem dJ1_equals_b5fdf_33 : decode cJ1_equals_b5fdf 33 = .ok (.ireturn, 1) := by decide +kernel
theorem dJ1_equals_b5fdf_34 : decode cJ1_equals_b5fdf 34 = .ok (.iconst 0, 1) := by decide +kernel
theorem dJ1_equals_b5fdf_35 : decode cJ1_equals_b5fdf 35 = .ok (.ireturn, 1) := by decide +kernel
theorem dJ1_inflate_0e8fd_0 : decode cJ1_inflate_0e8fd 0 = .ok (.aload_n 0, 1) := by decide +kernel
theorem dJ1_inflate_0e8fd_1 : decode cJ1_inflate_0e8fd 1 = .ok (.iload_n 1, 1) := by decide +kernel
theorem dJ1_inflate_0e8fd_2 : decode cJ1_inflate_0e8fd 2 = .ok (.aload_n 2, 1) := by decide +kernel
theorem dJ1_inflate_0e8fd_3 : decode cJ1_inflate_0e8fd 3 = .ok (.iload_n 3, 1) := by decide +kernel
theorem dJ1_inflate_0e8fd_4 : decode cJ1_inflate_0e8fd 4 = .ok (.iload 4, 2) := by decide +kernel
theorem dJ1_inflate_0e8fd_6 : decode cJ1_inflate_0e8fd 6 = .ok (.invokestatic 240, 3) := by decide +kernel
theorem dJ1_inflate_0e8fd_9 : decode cJ1_inflate_0e8fd 9 = .ok (.return_, 1) := by decide +kernel
theorem dJ2_newBytesFor_77867_0 : decode cJ2_newBytesFor_77867 0 = .ok (.iload_n 0, 1) := by decide +kernel
theorem dJ2_newBytesFor_77867_1 : decode cJ2_newBytesFor_77867 1 = .ok (.invokestatic 11, 3) := by decide +kernel
theorem dJ2_newBytesFor_77867_4 : decode cJ2_newBytesFor_77867 4 = .ok (.newarray .byte, 2) := by decide +kernel
theorem dJ2_newBytesFor_77867_6 : decode cJ2_newBytesFor_77867 6 = .ok (.areturn, 1) := by decide +kernel
theorem dJ2_newBytesLength_0f7a4_0 : decode cJ2_newBytesLength_0f7a4 0 = .ok (.iload_n 0, 1) := by decide +kernel
theorem dJ2_newBytesLength_0f7a4_1 : decode cJ2_newBytesLength_0f7a4 1 = .ok (.ifCond .ge 11, 3) := by decide +kernel
theorem dJ2_newBytesLength_0f7a4_4 : decode cJ2_newBytesLength_0f7a4 4 = .ok (.new 17, 3) := by decide +kernel
theorem dJ2_newBytesLength_0f7a4_7 : decode cJ2_newBytesLength_0f7a4 7 = .ok (.dup, 1) := by decide +kernel
theorem dJ2_newBytesLength_0f7a4_8 : decode cJ2_newBytesLength_0f7a4 8 = .ok (.invokespecial 19, 3) := by decide +kernel
theorem dJ2_newBytesLength_0f7a4_11 : decode cJ2_newBytesLength_0f7a4 11 = .ok (.athrow, 1) := by decide +kernel
theorem dJ2_newBytesLength_0f7a4_12 : decode cJ2_newBytesLength_0f7a4 12 = .ok (.iload_n 0, 1) := by decide +kernel
theorem dJ2_newBytesLength_0f7a4_13 : decode cJ2_newBytesLength_0f7a4 13 = .ok (.ldc 20, 2) := by decide +kernel
theorem dJ2_newBytesLength_0f7a4_15 : decode cJ2_newBytesLength_0f7a4 15 = .ok (.if_icmp .lt 40, 3) := by decide +kernel
theorem dJ2_newBytesLength_0f7a4_18 : decode cJ2_newBytesLength_0f7a4 18 = .ok (.new 21, 3) := by decide +kernel
theorem dJ2_newBytesLength_0f7a4_21 : decode cJ2_newBytesLength_0f7a4 21 = .ok (.dup, 1) := by decide +kernel
theorem dJ2_newBytesLength_0f7a4_22 : decode cJ2_newBytesLength_0f7a4 22 = .ok (.new 23, 3) := by decide +kernel
theorem dJ2_newBytesLength_0f7a4_25 : decode cJ2_newBytesLength_0f7a4 25 = .ok (.dup, 1) := by decide +kernel
theorem dJ2_newBytesLength_0f7a4_26 : decode cJ2_newBytesLength_0f7a4 26 = .ok (.invokespecial 25, 3) := by decide +kernel
theorem dJ2_newBytesLength_0f7a4_29 : decode cJ2_newBytesLength_0f7a4 29 = .ok (.ldc 26, 2) := by decide +kernel
theorem dJ2_newBytesLength_0f7a4_31 : decode cJ2_newBytesLength_0f7a4 31 = .ok (.invokevirtual 28, 3) := by decide +kernel
theorem dJ2_newBytesLength_0f7a4_34 : decode cJ2_newBytesLength_0f7a4 34 = .ok (.iload_n 0, 1) := by decide +kernel
theorem dJ2_newBytesLength_0f7a4_35 : decode cJ2_newBytesLength_0f7a4 35 = .ok (.invokevirtual 32, 3) := by decide +kernel
theorem dJ2_newBytesLength_0f7a4_38 : decode cJ2_newBytesLength_0f7a4 38 = .ok (.ldc 35, 2) := by decide +kernel
theorem dJ2_newBytesLength_0f7a4_40 : decode cJ2_newBytesLength_0f7a4 40 = .ok (.invokevirtual 28, 3) := by decide +kernel
theorem dJ2_newBytesLength_0f7a4_43 : decode cJ2_newBytesLength_0f7a4 43 = .ok (.ldc 20, 2) := by decide +kernel
theorem dJ2_newBytesLength_0f7a4_45 : decode cJ2_newBytesLength_0f7a4 45 = .ok (.invokevirtual 32, 3) := by decide +kernel
theorem dJ2_newBytesLength_0f7a4_48 : decode cJ2_newBytesLength_0f7a4 48 = .ok (.invokevirtual 37, 3) := by decide +kernel
theorem dJ2_newBytesLength_0f7a4_51 : decode cJ2_newBytesLength_0f7a4 51 = .ok (.invokespecial 41, 3) := by decide +kernel
theorem dJ2_newBytesLength_0f7a4_54 : decode cJ2_newBytesLength_0f7a4 54 = .ok (.athrow, 1) := by decide +kernel
theorem dJ2_newBytesLength_0f7a4_55 : decode cJ2_newBytesLength_0f7a4 55 = .ok (.iload_n 0, 1) := by decide +kernel
theorem dJ2_newBytesLength_0f7a4_56 : decode cJ2_newBytesLength_0f7a4 56 = .ok (.iconst 1, 1) := by decide +kernel
theorem dJ2_newBytesLength_0f7a4_57 : decode cJ2_newBytesLength_0f7a4 57 = .ok (.ishl, 1) := by decide +kernel
theorem dJ2_newBytesLength_0f7a4_58 : decode cJ2_newBytesLength_0f7a4 58 = .ok (.ireturn, 1) := by decide +kernel
theorem dJ2_putChar_b72d1_0 : decode cJ2_putChar_b72d1 0 = .ok (.getstatic 44, 3) := by decide +kernel
theorem dJ2_putChar_b72d1_3 : decode cJ2_putChar_b72d1 3 = .ok (.ifCond .ne 25, 3) := by decide +kernel
theorem dJ2_putChar_b72d1_6 : decode cJ2_putChar_b72d1 6 = .ok (.iload_n 1, 1) := by decide +kernel
theorem dJ2_putChar_b72d1_7 : decode cJ2_putChar_b72d1 7 = .ok (.ifCond .lt 11, 3) := by decide +kernel
theorem dJ2_putChar_b72d1_10 : decode cJ2_putChar_b72d1 10 = .ok (.iload_n 1, 1) := by decide +kernel
theorem dJ2_putChar_b72d1_11 : decode cJ2_putChar_b72d1 11 = .ok (.aload_n 0, 1) := by decide +kernel
theorem dJ2_putChar_b72d1_12 : decode cJ2_putChar_b72d1 12 = .ok (.invokestatic 48, 3) := by decide +kernel
theorem dJ2_putChar_b72d1_15 : decode cJ2_putChar_b72d1 15 = .ok (.if_icmp .lt 13, 3) := by decide +kernel
theorem dJ2_putChar_b72d1_18 : decode cJ2_putChar_b72d1 18 = .ok (.new 52, 3) := by decide +kernel
theorem dJ2_putChar_b72d1_21 : decode cJ2_putChar_b72d1 21 = .ok (.dup, 1) := by decide +kernel
theorem dJ2_putChar_b72d1_22 : decode cJ2_putChar_b72d1 22 = .ok (.ldc 54, 2) := by decide +kernel
theorem dJ2_putChar_b72d1_24 : decode cJ2_putChar_b72d1 24 = .ok (.invokespecial 56, 3) := by decide +kernel
theorem dJ2_putChar_b72d1_27 : decode cJ2_putChar_b72d1 27 = .ok (.athrow, 1) := by decide +kernel
theorem dJ2_putChar_b72d1_28 : decode cJ2_putChar_b72d1 28 = .ok (.iload_n 1, 1) := by decide +kernel
theorem dJ2_putChar_b72d1_29 : decode cJ2_putChar_b72d1 29 = .ok (.iconst 1, 1) := by decide +kernel
theorem dJ2_putChar_b72d1_30 : decode cJ2_putChar_b72d1 30 = .ok (.ishl, 1) := by decide +kernel
theorem dJ2_putChar_b72d1_31 : decode cJ2_putChar_b72d1 31 = .ok (.istore_n 1, 1) := by decide +kernel
theorem dJ2_putChar_b72d1_32 : decode cJ2_putChar_b72d1 32 = .ok (.aload_n 0, 1) := by decide +kernel
theorem dJ2_putChar_b72d1_33 : decode cJ2_putChar_b72d1 33 = .ok (.iload_n 1, 1) := by decide +kernel
theorem dJ2_putChar_b72d1_34 : decode cJ2_putChar_b72d1 34 = .ok (.iinc 1 1, 3) := by decide +kernel
theorem dJ2_putChar_b72d1_37 : decode cJ2_putChar_b72d1 37 = .ok (.iload_n 2, 1) := by decide +kernel
theorem dJ2_putChar_b72d1_38 : decode cJ2_putChar_b72d1 38 = .ok (.getstatic 59, 3) := by decide +kernel
theorem dJ2_putChar_b72d1_41 : decode cJ2_putChar_b72d1 41 = .ok (.ishr, 1) := by decide +kernel
theorem dJ2_putChar_b72d1_42 : decode cJ2_putChar_b72d1 42 = .ok (.i2b, 1) := by decide +kernel
theorem dJ2_putChar_b72d1_43 : decode cJ2_putChar_b72d1 43 = .ok (.bastore, 1) := by decide +kernel
theorem dJ2_putChar_b72d1_44 : decode cJ2_putChar_b72d1 44 = .ok (.aload_n 0, 1) := by decide +kernel
theorem dJ2_putChar_b72d1_45 : decode cJ2_putChar_b72d1 45 = .ok (.iload_n 1, 1) := by decide +kernel
theorem dJ2_putChar_b72d1_46 : decode cJ2_putChar_b72d1 46 = .ok (.iload_n 2, 1) := by decide +kernel
theorem dJ2_putChar_b72d1_47 : decode cJ2_putChar_b72d1 47 = .ok (.getstatic 63, 3) := by decide +kernel
theorem dJ2_putChar_b72d1_50 : decode cJ2_putChar_b72d1 50 = .ok (.ishr, 1) := by decide +kernel
theorem dJ2_putChar_b72d1_51 : decode cJ2_putChar_b72d1 51 = .ok (.i2b, 1) := by decide +kernel
theorem dJ2_putChar_b72d1_52 : decode cJ2_putChar_b72d1 52 = .ok (.bastore, 1) := by decide +kernel
theorem dJ2_putChar_b72d1_53 : decode cJ2_putChar_b72d1 53 = .ok (.return_, 1) := by decide +kernel
theorem dJ2_getChar_3b067_0 : decode cJ2_getChar_3b067 0 = .ok (.getstatic 44, 3) := by decide +kernel
theorem dJ2_getChar_3b067_3 : decode cJ2_getChar_3b067 3 = .ok (.ifCond .ne 25, 3) := by decide +kernel
theorem dJ2_getChar_3b067_6 : decode cJ2_getChar_3b067 6 = .ok (.iload_n 1, 1) := by decide +kernel
theorem dJ2_getChar_3b067_7 : decode cJ2_getChar_3b067 7 = .ok (.ifCond .lt 11, 3) := by decide +kernel
theorem dJ2_getChar_3b067_10 : decode cJ2_getChar_3b067 10 = .ok (.iload_n 1, 1) := by decide +kernel
theorem dJ2_getChar_3b067_11 : decode cJ2_getChar_3b067 11 = .ok (.aload_n 0, 1) := by decide +kernel
theorem dJ2_getChar_3b067_12 : decode cJ2_getChar_3b067 12 = .ok (.invokestatic 48, 3) := by decide +kernel
theorem dJ2_getChar_3b067_15 : decode cJ2_getChar_3b067 15 = .ok (.if_icmp .lt 13, 3) := by decide +kernel
theorem dJ2_getChar_3b067_18 : decode cJ2_getChar_3b067 18 = .ok (.new 52, 3) := by decide +kernel
theorem dJ2_getChar_3b067_21 : decode cJ2_getChar_3b067 21 = .ok (.dup, 1) := by decide +kernel
theorem dJ2_getChar_3b067_22 : decode cJ2_getChar_3b067 22 = .ok (.ldc 54, 2) := by decide +kernel
theorem dJ2_getChar_3b067_24 : decode cJ2_getChar_3b067 24 = .ok (.invokespecial 56, 3) := by decide +kernel
theorem dJ2_getChar_3b067_27 : decode cJ2_getChar_3b067 27 = .ok (.athrow, 1) := by decide +kernel
theorem dJ2_getChar_3b067_28 : decode cJ2_getChar_3b067 28 = .ok (.iload_n 1, 1) := by decide +kernel
theorem dJ2_getChar_3b067_29 : decode cJ2_getChar_3b067 29 = .ok (.iconst 1, 1) := by decide +kernel
theorem dJ2_getChar_3b067_30 : decode cJ2_getChar_3b067 30 = .ok (.ishl, 1) := by decide +kernel
theorem dJ2_getChar_3b067_31 : decode cJ2_getChar_3b067 31 = .ok (.istore_n 1, 1) := by decide +kernel
theorem dJ2_getChar_3b067_32 : decode cJ2_getChar_3b067 32 = .ok (.aload_n 0, 1) := by decide +kernel
theorem dJ2_getChar_3b067_33 : decode cJ2_getChar_3b067 33 = .ok (.iload_n 1, 1) := by decide +kernel
theorem dJ2_getChar_3b067_34 : decode cJ2_getChar_3b067 34 = .ok (.iinc 1 1, 3) := by decide +kernel
theorem dJ2_getChar_3b067_37 : decode cJ2_getChar_3b067 37 = .ok (.baload, 1) := by decide +kernel
theorem dJ2_getChar_3b067_38 : decode cJ2_getChar_3b067 38 = .ok (.sipush 255, 3) := by decide +kernel
theorem dJ2_getChar_3b067_41 : decode cJ2_getChar_3b067 41 = .ok (.iand, 1) := by decide +kernel
theorem dJ2_getChar_3b067_42 : decode cJ2_getChar_3b067 42 = .ok (.getstatic 59, 3) := by decide +kernel
theorem dJ2_getChar_3b067_45 : decode cJ2_getChar_3b067 45 = .ok (.ishl, 1) := by decide +kernel
theorem dJ2_getChar_3b067_46 : decode cJ2_getChar_3b067 46 = .ok (.aload_n 0, 1) := by decide +kernel
theorem dJ2_getChar_3b067_47 : decode cJ2_getChar_3b067 47 = .ok (.iload_n 1, 1) := by decide +kernel
theorem dJ2_getChar_3b067_48 : decode cJ2_getChar_3b067 48 = .ok (.baload, 1) := by decide +kernel
theorem dJ2_getChar_3b067_49 : decode cJ2_getChar_3b067 49 = .ok (.sipush 255, 3) := by decide +kernel
theorem dJ2_getChar_3b067_52 : decode cJ2_getChar_3b067 52 = .ok (.iand, 1) := by decide +kernel
theorem dJ2_getChar_3b067_53 : decode cJ2_getChar_3b067 53 = .ok (.getstatic 63, 3) := by decide +kernel
theorem dJ2_getChar_3b067_56 : decode cJ2_getChar_3b067 56 = .ok (.ishl, 1) := by decide +kernel
theorem dJ2_getChar_3b067_57 : decode cJ2_getChar_3b067 57 = .ok (.ior, 1) := by decide +kernel
theorem dJ2_getChar_3b067_58 : decode cJ2_getChar_3b067 58 = .ok (.i2c, 1) := by decide +kernel
theorem dJ2_getChar_3b067_59 : decode cJ2_getChar_3b067 59 = .ok (.ireturn, 1) := by decide +kernel
theorem dJ2_length_9d52b_0 : decode cJ2_length_9d52b 0 = .ok (.aload_n 0, 1) := by decide +kernel
theorem dJ2_length_9d52b_1 : decode cJ2_length_9d52b 1 = .ok (.arraylength, 1) := by decide +kernel
theorem dJ2_length_9d52b_2 : decode cJ2_length_9d52b 2 = .ok (.iconst 1, 1) := by decide +kernel
theorem dJ2_length_9d52b_3 : decode cJ2_length_9d52b 3 = .ok (.ishr, 1) := by decide +kernel
theorem dJ2_length_9d52b_4 : decode cJ2_length_9d52b 4 = .ok (.ireturn, 1) := by decide +kernel
theorem dJ2_coderFromArrayLen_85cad_0 : decode cJ2_coderFromArrayLen_85cad 0 = .ok (.iload_n 1, 1) := by decide +kernel
theorem dJ2_coderFromArrayLen_85cad_1 : decode cJ2_coderFromArrayLen_85cad 1 = .ok (.aload_n 0, 1) := by decide +kernel
theorem dJ2_coderFromArrayLen_85cad_2 : decode cJ2_coderFromArrayLen_85cad 2 = .ok (.arraylength, 1) := by decide +kernel
theorem dJ2_coderFromArrayLen_85cad_3 : decode cJ2_coderFromArrayLen_85cad 3 = .ok (.isub, 1) := by decide +kernel
theorem dJ2_coderFromArrayLen_85cad_4 : decode cJ2_coderFromArrayLen_85cad 4 = .ok (.bipush 31, 2) := by decide +kernel
theorem dJ2_coderFromArrayLen_85cad_6 : decode cJ2_coderFromArrayLen_85cad 6 = .ok (.iushr, 1) := by decide +kernel
theorem dJ2_coderFromArrayLen_85cad_7 : decode cJ2_coderFromArrayLen_85cad 7 = .ok (.i2b, 1) := by decide +kernel
theorem dJ2_coderFromArrayLen_85cad_8 : decode cJ2_coderFromArrayLen_85cad 8 = .ok (.ireturn, 1) := by decide +kernel
theorem dJ2_compress_39247_0 : decode cJ2_compress_39247 0 = .ok (.iload_n 2, 1) := by decide +kernel
theorem dJ2_compress_39247_1 : decode cJ2_compress_39247 1 = .ok (.newarray .byte, 2) := by decide +kernel
theorem dJ2_compress_39247_3 : decode cJ2_compress_39247 3 = .ok (.astore_n 3, 1) := by decide +kernel
theorem dJ2_compress_39247_4 : decode cJ2_compress_39247 4 = .ok (.aload_n 0, 1) := by decide +kernel
theorem dJ2_compress_39247_5 : decode cJ2_compress_39247 5 = .ok (.iload_n 1, 1) := by decide +kernel
theorem dJ2_compress_39247_6 : decode cJ2_compress_39247 6 = .ok (.aload_n 3, 1) := by decide +kernel
theorem dJ2_compress_39247_7 : decode cJ2_compress_39247 7 = .ok (.iconst 0, 1) := by decide +kernel
theorem dJ2_compress_39247_8 : decode cJ2_compress_39247 8 = .ok (.iload_n 2, 1) := by decide +kernel
theorem dJ2_compress_39247_9 : decode cJ2_compress_39247 9 = .ok (.invokestatic 123, 3) := by decide +kernel
theorem dJ2_compress_39247_12 : decode cJ2_compress_39247 12 = .ok (.istore 4, 2) := by decide +kernel
theorem dJ2_compress_39247_14 : decode cJ2_compress_39247 14 = .ok (.iload 4, 2) := by decide +kernel
theorem dJ2_compress_39247_16 : decode cJ2_compress_39247 16 = .ok (.iload_n 2, 1) := by decide +kernel
theorem dJ2_compress_39247_17 : decode cJ2_compress_39247 17 = .ok (.if_icmp .eq 47, 3) := by decide +kernel
theorem dJ2_compress_39247_20 : decode cJ2_compress_39247 20 = .ok (.aload_n 0, 1) := by decide +kernel
theorem dJ2_compress_39247_21 : decode cJ2_compress_39247 21 = .ok (.iload_n 1, 1) := by decide +kernel
theorem dJ2_compress_39247_22 : decode cJ2_compress_39247 22 = .ok (.iconst 1, 1) := by decide +kernel
theorem dJ2_compress_39247_23 : decode cJ2_compress_39247 23 = .ok (.ishl, 1) := by decide +kernel
theorem dJ2_compress_39247_24 : decode cJ2_compress_39247 24 = .ok (.iload_n 1, 1) := by decide +kernel
theorem dJ2_compress_39247_25 : decode cJ2_compress_39247 25 = .ok (.iload_n 2, 1) := by decide +kernel
theorem dJ2_compress_39247_26 : decode cJ2_compress_39247 26 = .ok (.iadd, 1) := by decide +kernel
theorem dJ2_compress_39247_27 : decode cJ2_compress_39247 27 = .ok (.invokestatic 11, 3) := by decide +kernel
theorem dJ2_compress_39247_30 : decode cJ2_compress_39247 30 = .ok (.invokestatic 126, 3) := by decide +kernel
theorem dJ2_compress_39247_33 : decode cJ2_compress_39247 33 = .ok (.astore 5, 2) := by decide +kernel
theorem dJ2_compress_39247_35 : decode cJ2_compress_39247 35 = .ok (.aload 5, 2) := by decide +kernel
theorem dJ2_compress_39247_37 : decode cJ2_compress_39247 37 = .ok (.iload 4, 2) := by decide +kernel
theorem dJ2_compress_39247_39 : decode cJ2_compress_39247 39 = .ok (.invokestatic 71, 3) := by decide +kernel
theorem dJ2_compress_39247_42 : decode cJ2_compress_39247 42 = .ok (.sipush 255, 3) := by decide +kernel
theorem dJ2_compress_39247_45 : decode cJ2_compress_39247 45 = .ok (.if_icmp .gt 16, 3) := by decide +kernel
theorem dJ2_compress_39247_48 : decode cJ2_compress_39247 48 = .ok (.aload 5, 2) := by decide +kernel
theorem dJ2_compress_39247_50 : decode cJ2_compress_39247 50 = .ok (.iconst 0, 1) := by decide +kernel
theorem dJ2_compress_39247_51 : decode cJ2_compress_39247 51 = .ok (.aload_n 3, 1) := by decide +kernel
theorem dJ2_compress_39247_52 : decode cJ2_compress_39247 52 = .ok (.iconst 0, 1) := by decide +kernel
theorem dJ2_compress_39247_53 : decode cJ2_compress_39247 53 = .ok (.iload_n 2, 1) := by decide +kernel
theorem dJ2_compress_39247_54 : decode cJ2_compress_39247 54 = .ok (.invokestatic 123, 3) := by decide +kernel
theorem dJ2_compress_39247_57 : decode cJ2_compress_39247 57 = .ok (.iload_n 2, 1) := by decide +kernel
theorem dJ2_compress_39247_58 : decode cJ2_compress_39247 58 = .ok (.if_icmp .eq 6, 3) := by decide +kernel
theorem dJ2_compress_39247_61 : decode cJ2_compress_39247 61 = .ok (.aload 5, 2) := by decide +kernel
theorem dJ2_compress_39247_63 : decode cJ2_compress_39247 63 = .ok (.areturn, 1) := by decide +kernel
theorem dJ2_compress_39247_64 : decode cJ2_compress_39247 64 = .ok (.aload_n 3, 1) := by decide +kernel
theorem dJ2_compress_39247_65 : decode cJ2_compress_39247 65 = .ok (.areturn, 1) := by decide +kernel
theorem dJ2_compress_5af95_0 : decode cJ2_compress_5af95 0 = .ok (.iload_n 1, 1) := by decide +kernel
theorem dJ2_compress_5af95_1 : decode cJ2_compress_5af95 1 = .ok (.iload 4, 2) := by decide +kernel
theorem dJ2_compress_5af95_3 : decode cJ2_compress_5af95 3 = .ok (.aload_n 0, 1) := by decide +kernel
theorem dJ2_compress_5af95_4 : decode cJ2_compress_5af95 4 = .ok (.invokestatic 173, 3) := by decide +kernel
theorem dJ2_compress_5af95_7 : decode cJ2_compress_5af95 7 = .ok (.iconst 0, 1) := by decide +kernel
theorem dJ2_compress_5af95_8 : decode cJ2_compress_5af95 8 = .ok (.istore 5, 2) := by decide +kernel
theorem dJ2_compress_5af95_10 : decode cJ2_compress_5af95 10 = .ok (.iload 5, 2) := by decide +kernel
theorem dJ2_compress_5af95_12 : decode cJ2_compress_5af95 12 = .ok (.iload 4, 2) := by decide +kernel
theorem dJ2_compress_5af95_14 : decode cJ2_compress_5af95 14 = .ok (.if_icmp .ge 39, 3) := by decide +kernel
theorem dJ2_compress_5af95_17 : decode cJ2_compress_5af95 17 = .ok (.aload_n 0, 1) := by decide +kernel
theorem dJ2_compress_5af95_18 : decode cJ2_compress_5af95 18 = .ok (.iload_n 1, 1) := by decide +kernel
theorem dJ2_compress_5af95_19 : decode cJ2_compress_5af95 19 = .ok (.invokestatic 71, 3) := by decide +kernel
theorem dJ2_compress_5af95_22 : decode cJ2_compress_5af95 22 = .ok (.istore 6, 2) := by decide +kernel
theorem dJ2_compress_5af95_24 : decode cJ2_compress_5af95 24 = .ok (.iload 6, 2) := by decide +kernel
theorem dJ2_compress_5af95_26 : decode cJ2_compress_5af95 26 = .ok (.sipush 255, 3) := by decide +kernel
theorem dJ2_compress_5af95_29 : decode cJ2_compress_5af95 29 = .ok (.if_icmp .le 6, 3) := by decide +kernel
theorem dJ2_compress_5af95_32 : decode cJ2_compress_5af95 32 = .ok (.iload 5, 2) := by decide +kernel
theorem dJ2_compress_5af95_34 : decode cJ2_compress_5af95 34 = .ok (.ireturn, 1) := by decide +kernel
theorem dJ2_compress_5af95_35 : decode cJ2_compress_5af95 35 = .ok (.aload_n 2, 1) := by decide +kernel
theorem dJ2_compress_5af95_36 : decode cJ2_compress_5af95 36 = .ok (.iload_n 3, 1) := by decide +kernel
theorem dJ2_compress_5af95_37 : decode cJ2_compress_5af95 37 = .ok (.iload 6, 2) := by decide +kernel
theorem dJ2_compress_5af95_39 : decode cJ2_compress_5af95 39 = .ok (.i2b, 1) := by decide +kernel
theorem dJ2_compress_5af95_40 : decode cJ2_compress_5af95 40 = .ok (.bastore, 1) := by decide +kernel
theorem dJ2_compress_5af95_41 : decode cJ2_compress_5af95 41 = .ok (.iinc 1 1, 3) := by decide +kernel
theorem dJ2_compress_5af95_44 : decode cJ2_compress_5af95 44 = .ok (.iinc 3 1, 3) := by decide +kernel
theorem dJ2_compress_5af95_47 : decode cJ2_compress_5af95 47 = .ok (.iinc 5 1, 3) := by decide +kernel
theorem dJ2_compress_5af95_50 : decode cJ2_compress_5af95 50 = .ok (.goto (-40), 3) := by decide +kernel
theorem dJ2_compress_5af95_53 : decode cJ2_compress_5af95 53 = .ok (.iload 4, 2) := by decide +kernel
theorem dJ2_compress_5af95_55 : decode cJ2_compress_5af95 55 = .ok (.ireturn, 1) := by decide +kernel
theorem dJ2_putChars_03870_0 : decode cJ2_putChars_03870 0 = .ok (.iload_n 3, 1) := by decide +kernel
theorem dJ2_putChars_03870_1 : decode cJ2_putChars_03870 1 = .ok (.iload 4, 2) := by decide +kernel
theorem dJ2_putChars_03870_3 : decode cJ2_putChars_03870 3 = .ok (.if_icmp .ge 20, 3) := by decide +kernel
theorem dJ2_putChars_03870_6 : decode cJ2_putChars_03870 6 = .ok (.aload_n 0, 1) := by decide +kernel
theorem dJ2_putChars_03870_7 : decode cJ2_putChars_03870 7 = .ok (.iload_n 1, 1) := by decide +kernel
theorem dJ2_putChars_03870_8 : decode cJ2_putChars_03870 8 = .ok (.iinc 1 1, 3) := by decide +kernel
theorem dJ2_putChars_03870_11 : decode cJ2_putChars_03870 11 = .ok (.aload_n 2, 1) := by decide +kernel
theorem dJ2_putChars_03870_12 : decode cJ2_putChars_03870 12 = .ok (.iload_n 3, 1) := by decide +kernel
theorem dJ2_putChars_03870_13 : decode cJ2_putChars_03870 13 = .ok (.iinc 3 1, 3) := by decide +kernel
theorem dJ2_putChars_03870_16 : decode cJ2_putChars_03870 16 = .ok (.caload, 1) := by decide +kernel
theorem dJ2_putChars_03870_17 : decode cJ2_putChars_03870 17 = .ok (.invokestatic 111, 3) := by decide +kernel
theorem dJ2_putChars_03870_20 : decode cJ2_putChars_03870 20 = .ok (.goto (-20), 3) := by decide +kernel
theorem dJ2_putChars_03870_23 : decode cJ2_putChars_03870 23 = .ok (.return_, 1) := by decide +kernel
theorem dJ2_putCharSB_b72d1_0 : decode cJ2_putCharSB_b72d1 0 = .ok (.iload_n 1, 1) := by decide +kernel
theorem dJ2_putCharSB_b72d1_1 : decode cJ2_putCharSB_b72d1 1 = .ok (.aload_n 0, 1) := by decide +kernel
theorem dJ2_putCharSB_b72d1_2 : decode cJ2_putCharSB_b72d1 2 = .ok (.invokestatic 67, 3) := by decide +kernel
theorem dJ2_putCharSB_b72d1_5 : decode cJ2_putCharSB_b72d1 5 = .ok (.aload_n 0, 1) := by decide +kernel
theorem dJ2_putCharSB_b72d1_6 : decode cJ2_putCharSB_b72d1 6 = .ok (.iload_n 1, 1) := by decide +kernel
theorem dJ2_putCharSB_b72d1_7 : decode cJ2_putCharSB_b72d1 7 = .ok (.iload_n 2, 1) := by decide +kernel
theorem dJ2_putCharSB_b72d1_8 : decode cJ2_putCharSB_b72d1 8 = .ok (.invokestatic 111, 3) := by decide +kernel
theorem dJ2_putCharSB_b72d1_11 : decode cJ2_putCharSB_b72d1 11 = .ok (.return_, 1) := by decide +kernel
theorem dJ2_putCharsSB_03870_0 : decode cJ2_putCharsSB_03870 0 = .ok (.iload_n 1, 1) := by decide +kernel
theorem dJ2_putCharsSB_03870_1 : decode cJ2_putCharsSB_03870 1 = .ok (.iload_n 1, 1) := by decide +kernel
theorem dJ2_putCharsSB_03870_2 : decode cJ2_putCharsSB_03870 2 = .ok (.iload 4, 2) := by decide +kernel
theorem dJ2_putCharsSB_03870_4 : decode cJ2_putCharsSB_03870 4 = .ok (.iadd, 1) := by decide +kernel
theorem dJ2_putCharsSB_03870_5 : decode cJ2_putCharsSB_03870 5 = .ok (.iload_n 3, 1) := by decide +kernel
theorem dJ2_putCharsSB_03870_6 : decode cJ2_putCharsSB_03870 6 = .ok (.isub, 1) := by decide +kernel
theorem dJ2_putCharsSB_03870_7 : decode cJ2_putCharsSB_03870 7 = .ok (.aload_n 0, 1) := by decide +kernel
theorem dJ2_putCharsSB_03870_8 : decode cJ2_putCharsSB_03870 8 = .ok (.invokestatic 96, 3) := by decide +kernel
theorem dJ2_putCharsSB_03870_11 : decode cJ2_putCharsSB_03870 11 = .ok (.aload_n 0, 1) := by decide +kernel
theorem dJ2_putCharsSB_03870_12 : decode cJ2_putCharsSB_03870 12 = .ok (.iload_n 1, 1) := by decide +kernel
theorem dJ2_putCharsSB_03870_13 : decode cJ2_putCharsSB_03870 13 = .ok (.aload_n 2, 1) := by decide +kernel
theorem dJ2_putCharsSB_03870_14 : decode cJ2_putCharsSB_03870 14 = .ok (.iload_n 3, 1) := by decide +kernel
theorem dJ2_putCharsSB_03870_15 : decode cJ2_putCharsSB_03870 15 = .ok (.iload 4, 2) := by decide +kernel
theorem dJ2_putCharsSB_03870_17 : decode cJ2_putCharsSB_03870 17 = .ok (.invokestatic 384, 3) := by decide +kernel
theorem dJ2_putCharsSB_03870_20 : decode cJ2_putCharsSB_03870 20 = .ok (.return_, 1) := by decide +kernel
theorem dJ2_putCharsSB_8fd6a_0 : decode cJ2_putCharsSB_8fd6a 0 = .ok (.iload_n 1, 1) := by decide +kernel
theorem dJ2_putCharsSB_8fd6a_1 : decode cJ2_putCharsSB_8fd6a 1 = .ok (.iload_n 1, 1) := by decide +kernel
theorem dJ2_putCharsSB_8fd6a_2 : decode cJ2_putCharsSB_8fd6a 2 = .ok (.iload 4, 2) := by decide +kernel
theorem dJ2_putCharsSB_8fd6a_4 : decode cJ2_putCharsSB_8fd6a 4 = .ok (.iadd, 1) := by decide +kernel
theorem dJ2_putCharsSB_8fd6a_5 : decode cJ2_putCharsSB_8fd6a 5 = .ok (.iload_n 3, 1) := by decide +kernel
theorem dJ2_putCharsSB_8fd6a_6 : decode cJ2_putCharsSB_8fd6a 6 = .ok (.isub, 1) := by decide +kernel
theorem dJ2_putCharsSB_8fd6a_7 : decode cJ2_putCharsSB_8fd6a 7 = .ok (.aload_n 0, 1) := by decide +kernel
theorem dJ2_putCharsSB_8fd6a_8 : decode cJ2_putCharsSB_8fd6a 8 = .ok (.invokestatic 96, 3) := by decide +kernel
theorem dJ2_putCharsSB_8fd6a_11 : decode cJ2_putCharsSB_8fd6a 11 = .ok (.iload_n 3, 1) := by decide +kernel
theorem dJ2_putCharsSB_8fd6a_12 : decode cJ2_putCharsSB_8fd6a 12 = .ok (.istore 5, 2) := by decide +kernel
theorem dJ2_putCharsSB_8fd6a_14 : decode cJ2_putCharsSB_8fd6a 14 = .ok (.iload 5, 2) := by decide +kernel
theorem dJ2_putCharsSB_8fd6a_16 : decode cJ2_putCharsSB_8fd6a 16 = .ok (.iload 4, 2) := by decide +kernel
theorem dJ2_putCharsSB_8fd6a_18 : decode cJ2_putCharsSB_8fd6a 18 = .ok (.if_icmp .ge 25, 3) := by decide +kernel
theorem dJ2_putCharsSB_8fd6a_21 : decode cJ2_putCharsSB_8fd6a 21 = .ok (.aload_n 0, 1) := by decide +kernel
theorem dJ2_putCharsSB_8fd6a_22 : decode cJ2_putCharsSB_8fd6a 22 = .ok (.iload_n 1, 1) := by decide +kernel
theorem dJ2_putCharsSB_8fd6a_23 : decode cJ2_putCharsSB_8fd6a 23 = .ok (.iinc 1 1, 3) := by decide +kernel
theorem dJ2_putCharsSB_8fd6a_26 : decode cJ2_putCharsSB_8fd6a 26 = .ok (.aload_n 2, 1) := by decide +kernel
theorem dJ2_putCharsSB_8fd6a_27 : decode cJ2_putCharsSB_8fd6a 27 = .ok (.iload 5, 2) := by decide +kernel
theorem dJ2_putCharsSB_8fd6a_29 : decode cJ2_putCharsSB_8fd6a 29 = .ok (.invokeinterface 388 2, 5) := by decide +kernel
theorem dJ2_putCharsSB_8fd6a_34 : decode cJ2_putCharsSB_8fd6a 34 = .ok (.invokestatic 111, 3) := by decide +kernel
theorem dJ2_putCharsSB_8fd6a_37 : decode cJ2_putCharsSB_8fd6a 37 = .ok (.iinc 5 1, 3) := by decide +kernel
theorem dJ2_putCharsSB_8fd6a_40 : decode cJ2_putCharsSB_8fd6a 40 = .ok (.goto (-26), 3) := by decide +kernel
theorem dJ2_putCharsSB_8fd6a_43 : decode cJ2_putCharsSB_8fd6a 43 = .ok (.return_, 1) := by decide +kernel
theorem dJ2_getChars_46870_0 : decode cJ2_getChars_46870 0 = .ok (.iload_n 1, 1) := by decide +kernel
theorem dJ2_getChars_46870_1 : decode cJ2_getChars_46870 1 = .ok (.iload_n 2, 1) := by decide +kernel
theorem dJ2_getChars_46870_2 : decode cJ2_getChars_46870 2 = .ok (.aload_n 3, 1) := by decide +kernel
theorem dJ2_getChars_46870_3 : decode cJ2_getChars_46870 3 = .ok (.invokestatic 96, 3) := by decide +kernel
theorem dJ2_getChars_46870_6 : decode cJ2_getChars_46870 6 = .ok (.iload_n 0, 1) := by decide +kernel
theorem dJ2_getChars_46870_7 : decode cJ2_getChars_46870 7 = .ok (.iload_n 2, 1) := by decide +kernel
theorem dJ2_getChars_46870_8 : decode cJ2_getChars_46870 8 = .ok (.aload_n 3, 1) := by decide +kernel
theorem dJ2_getChars_46870_9 : decode cJ2_getChars_46870 9 = .ok (.invokestatic 393, 3) := by decide +kernel
theorem dJ2_getChars_46870_12 : decode cJ2_getChars_46870 12 = .ok (.istore 4, 2) := by decide +kernel
theorem dJ2_getChars_46870_14 : decode cJ2_getChars_46870 14 = .ok (.getstatic 44, 3) := by decide +kernel
theorem dJ2_getChars_46870_17 : decode cJ2_getChars_46870 17 = .ok (.ifCond .ne 17, 3) := by decide +kernel
theorem dJ2_getChars_46870_20 : decode cJ2_getChars_46870 20 = .ok (.iload_n 1, 1) := by decide +kernel
theorem dJ2_getChars_46870_21 : decode cJ2_getChars_46870 21 = .ok (.iload 4, 2) := by decide +kernel
theorem dJ2_getChars_46870_23 : decode cJ2_getChars_46870 23 = .ok (.if_icmp .eq 11, 3) := by decide +kernel
theorem dJ2_getChars_46870_26 : decode cJ2_getChars_46870 26 = .ok (.new 52, 3) := by decide +kernel
theorem dJ2_getChars_46870_29 : decode cJ2_getChars_46870 29 = .ok (.dup, 1) := by decide +kernel
theorem dJ2_getChars_46870_30 : decode cJ2_getChars_46870 30 = .ok (.invokespecial 66, 3) := by decide +kernel
theorem dJ2_getChars_46870_33 : decode cJ2_getChars_46870 33 = .ok (.athrow, 1) := by decide +kernel
theorem dJ2_getChars_46870_34 : decode cJ2_getChars_46870 34 = .ok (.iload 4, 2) := by decide +kernel
theorem dJ2_getChars_46870_36 : decode cJ2_getChars_46870 36 = .ok (.ireturn, 1) := by decide +kernel
theorem dJ2_getChars_1ba55_0 : decode cJ2_getChars_1ba55 0 = .ok (.iload_n 2, 1) := by decide +kernel
theorem dJ2_getChars_1ba55_1 : decode cJ2_getChars_1ba55 1 = .ok (.iload_n 3, 1) := by decide +kernel
theorem dJ2_getChars_1ba55_2 : decode cJ2_getChars_1ba55 2 = .ok (.aload 4, 2) := by decide +kernel
theorem dJ2_getChars_1ba55_4 : decode cJ2_getChars_1ba55 4 = .ok (.invokestatic 96, 3) := by decide +kernel
theorem dJ2_getChars_1ba55_7 : decode cJ2_getChars_1ba55 7 = .ok (.lload_n 0, 1) := by decide +kernel
theorem dJ2_getChars_1ba55_8 : decode cJ2_getChars_1ba55 8 = .ok (.iload_n 3, 1) := by decide +kernel
theorem dJ2_getChars_1ba55_9 : decode cJ2_getChars_1ba55 9 = .ok (.aload 4, 2) := by decide +kernel
theorem dJ2_getChars_1ba55_11 : decode cJ2_getChars_1ba55 11 = .ok (.invokestatic 396, 3) := by decide +kernel
theorem dJ2_getChars_1ba55_14 : decode cJ2_getChars_1ba55 14 = .ok (.istore 5, 2) := by decide +kernel
theorem dJ2_getChars_1ba55_16 : decode cJ2_getChars_1ba55 16 = .ok (.getstatic 44, 3) := by decide +kernel
theorem dJ2_getChars_1ba55_19 : decode cJ2_getChars_1ba55 19 = .ok (.ifCond .ne 17, 3) := by decide +kernel
theorem dJ2_getChars_1ba55_22 : decode cJ2_getChars_1ba55 22 = .ok (.iload_n 2, 1) := by decide +kernel
theorem dJ2_getChars_1ba55_23 : decode cJ2_getChars_1ba55 23 = .ok (.iload 5, 2) := by decide +kernel
theorem dJ2_getChars_1ba55_25 : decode cJ2_getChars_1ba55 25 = .ok (.if_icmp .eq 11, 3) := by decide +kernel
theorem dJ2_getChars_1ba55_28 : decode cJ2_getChars_1ba55 28 = .ok (.new 52, 3) := by decide +kernel
theorem dJ2_getChars_1ba55_31 : decode cJ2_getChars_1ba55 31 = .ok (.dup, 1) := by decide +kernel
theorem dJ2_getChars_1ba55_32 : decode cJ2_getChars_1ba55 32 = .ok (.invokespecial 66, 3) := by decide +kernel
theorem dJ2_getChars_1ba55_35 : decode cJ2_getChars_1ba55 35 = .ok (.athrow, 1) := by decide +kernel
theorem dJ2_getChars_1ba55_36 : decode cJ2_getChars_1ba55 36 = .ok (.iload 5, 2) := by decide +kernel
theorem dJ2_getChars_1ba55_38 : decode cJ2_getChars_1ba55 38 = .ok (.ireturn, 1) := by decide +kernel
theorem dJ2_putCharsAt_cd4e5_0 : decode cJ2_putCharsAt_cd4e5 0 = .ok (.iload_n 1, 1) := by decide +kernel
theorem dJ2_putCharsAt_cd4e5_1 : decode cJ2_putCharsAt_cd4e5 1 = .ok (.iconst 4, 1) := by decide +kernel
theorem dJ2_putCharsAt_cd4e5_2 : decode cJ2_putCharsAt_cd4e5 2 = .ok (.iadd, 1) := by decide +kernel
theorem dJ2_putCharsAt_cd4e5_3 : decode cJ2_putCharsAt_cd4e5 3 = .ok (.istore 6, 2) := by decide +kernel
theorem dJ2_putCharsAt_cd4e5_5 : decode cJ2_putCharsAt_cd4e5 5 = .ok (.iload_n 1, 1) := by decide +kernel
theorem dJ2_putCharsAt_cd4e5_6 : decode cJ2_putCharsAt_cd4e5 6 = .ok (.iload 6, 2) := by decide +kernel
theorem dJ2_putCharsAt_cd4e5_8 : decode cJ2_putCharsAt_cd4e5 8 = .ok (.aload_n 0, 1) := by decide +kernel
theorem dJ2_putCharsAt_cd4e5_9 : decode cJ2_putCharsAt_cd4e5 9 = .ok (.invokestatic 96, 3) := by decide +kernel
theorem dJ2_putCharsAt_cd4e5_12 : decode cJ2_putCharsAt_cd4e5 12 = .ok (.aload_n 0, 1) := by decide +kernel
theorem dJ2_putCharsAt_cd4e5_13 : decode cJ2_putCharsAt_cd4e5 13 = .ok (.iload_n 1, 1) := by decide +kernel
theorem dJ2_putCharsAt_cd4e5_14 : decode cJ2_putCharsAt_cd4e5 14 = .ok (.iinc 1 1, 3) := by decide +kernel
theorem dJ2_putCharsAt_cd4e5_17 : decode cJ2_putCharsAt_cd4e5 17 = .ok (.iload_n 2, 1) := by decide +kernel
theorem dJ2_putCharsAt_cd4e5_18 : decode cJ2_putCharsAt_cd4e5 18 = .ok (.invokestatic 111, 3) := by decide +kernel
theorem dJ2_putCharsAt_cd4e5_21 : decode cJ2_putCharsAt_cd4e5 21 = .ok (.aload_n 0, 1) := by decide +kernel
theorem dJ2_putCharsAt_cd4e5_22 : decode cJ2_putCharsAt_cd4e5 22 = .ok (.iload_n 1, 1) := by decide +kernel
theorem dJ2_putCharsAt_cd4e5_23 : decode cJ2_putCharsAt_cd4e5 23 = .ok (.iinc 1 1, 3) := by decide +kernel
theorem dJ2_putCharsAt_cd4e5_26 : decode cJ2_putCharsAt_cd4e5 26 = .ok (.iload_n 3, 1) := by decide +kernel
theorem dJ2_putCharsAt_cd4e5_27 : decode cJ2_putCharsAt_cd4e5 27 = .ok (.invokestatic 111, 3) := by decide +kernel
theorem dJ2_putCharsAt_cd4e5_30 : decode cJ2_putCharsAt_cd4e5 30 = .ok (.aload_n 0, 1) := by decide +kernel
theorem dJ2_putCharsAt_cd4e5_31 : decode cJ2_putCharsAt_cd4e5 31 = .ok (.iload_n 1, 1) := by decide +kernel
theorem dJ2_putCharsAt_cd4e5_32 : decode cJ2_putCharsAt_cd4e5 32 = .ok (.iinc 1 1, 3) := by decide +kernel
theorem dJ2_putCharsAt_cd4e5_35 : decode cJ2_putCharsAt_cd4e5 35 = .ok (.iload 4, 2) := by decide +kernel
theorem dJ2_putCharsAt_cd4e5_37 : decode cJ2_putCharsAt_cd4e5 37 = .ok (.invokestatic 111, 3) := by decide +kernel
theorem dJ2_putCharsAt_cd4e5_40 : decode cJ2_putCharsAt_cd4e5 40 = .ok (.aload_n 0, 1) := by decide +kernel
theorem dJ2_putCharsAt_cd4e5_41 : decode cJ2_putCharsAt_cd4e5 41 = .ok (.iload_n 1, 1) := by decide +kernel
theorem dJ2_putCharsAt_cd4e5_42 : decode cJ2_putCharsAt_cd4e5 42 = .ok (.iinc 1 1, 3) := by decide +kernel
theorem dJ2_putCharsAt_cd4e5_45 : decode cJ2_putCharsAt_cd4e5 45 = .ok (.iload 5, 2) := by decide +kernel
theorem dJ2_putCharsAt_cd4e5_47 : decode cJ2_putCharsAt_cd4e5 47 = .ok (.invokestatic 111, 3) := by decide +kernel
theorem dJ2_putCharsAt_cd4e5_50 : decode cJ2_putCharsAt_cd4e5 50 = .ok (.getstatic 44, 3) := by decide +kernel
theorem dJ2_putCharsAt_cd4e5_53 : decode cJ2_putCharsAt_cd4e5 53 = .ok (.ifCond .ne 17, 3) := by decide +kernel
theorem dJ2_putCharsAt_cd4e5_56 : decode cJ2_putCharsAt_cd4e5 56 = .ok (.iload_n 1, 1) := by decide +kernel
theorem dJ2_putCharsAt_cd4e5_57 : decode cJ2_putCharsAt_cd4e5 57 = .ok (.iload 6, 2) := by decide +kernel
theorem dJ2_putCharsAt_cd4e5_59 : decode cJ2_putCharsAt_cd4e5 59 = .ok (.if_icmp .eq 11, 3) := by decide +kernel
theorem dJ2_putCharsAt_cd4e5_62 : decode cJ2_putCharsAt_cd4e5 62 = .ok (.new 52, 3) := by decide +kernel
theorem dJ2_putCharsAt_cd4e5_65 : decode cJ2_putCharsAt_cd4e5 65 = .ok (.dup, 1) := by decide +kernel
theorem dJ2_putCharsAt_cd4e5_66 : decode cJ2_putCharsAt_cd4e5 66 = .ok (.invokespecial 66, 3) := by decide +kernel
theorem dJ2_putCharsAt_cd4e5_69 : decode cJ2_putCharsAt_cd4e5 69 = .ok (.athrow, 1) := by decide +kernel
theorem dJ2_putCharsAt_cd4e5_70 : decode cJ2_putCharsAt_cd4e5 70 = .ok (.iload 6, 2) := by decide +kernel
theorem dJ2_putCharsAt_cd4e5_72 : decode cJ2_putCharsAt_cd4e5 72 = .ok (.ireturn, 1) := by decide +kernel
theorem dJ2_charAt_3b067_0 : decode cJ2_charAt_3b067 0 = .ok (.iload_n 1, 1) := by decide +kernel
theorem dJ2_charAt_3b067_1 : decode cJ2_charAt_3b067 1 = .ok (.aload_n 0, 1) := by decide +kernel
theorem dJ2_charAt_3b067_2 : decode cJ2_charAt_3b067 2 = .ok (.invokestatic 67, 3) := by decide +kernel
theorem dJ2_charAt_3b067_5 : decode cJ2_charAt_3b067 5 = .ok (.aload_n 0, 1) := by decide +kernel
theorem dJ2_charAt_3b067_6 : decode cJ2_charAt_3b067 6 = .ok (.iload_n 1, 1) := by decide +kernel
theorem dJ2_charAt_3b067_7 : decode cJ2_charAt_3b067 7 = .ok (.invokestatic 71, 3) := by decide +kernel
theorem dJ2_charAt_3b067_10 : decode cJ2_charAt_3b067 10 = .ok (.ireturn, 1) := by decide +kernel
theorem dJ2_inflate_0e8fd_0 : decode cJ2_inflate_0e8fd 0 = .ok (.iload_n 3, 1) := by decide +kernel
theorem dJ2_inflate_0e8fd_1 : decode cJ2_inflate_0e8fd 1 = .ok (.iload 4, 2) := by decide +kernel
theorem dJ2_inflate_0e8fd_3 : decode cJ2_inflate_0e8fd 3 = .ok (.aload_n 2, 1) := by decide +kernel
theorem dJ2_inflate_0e8fd_4 : decode cJ2_inflate_0e8fd 4 = .ok (.invokestatic 173, 3) := by decide +kernel
theorem dJ2_inflate_0e8fd_7 : decode cJ2_inflate_0e8fd 7 = .ok (.iconst 0, 1) := by decide +kernel
theorem dJ2_inflate_0e8fd_8 : decode cJ2_inflate_0e8fd 8 = .ok (.istore 5, 2) := by decide +kernel
theorem dJ2_inflate_0e8fd_10 : decode cJ2_inflate_0e8fd 10 = .ok (.iload 5, 2) := by decide +kernel
theorem dJ2_inflate_0e8fd_12 : decode cJ2_inflate_0e8fd 12 = .ok (.iload 4, 2) := by decide +kernel
theorem dJ2_inflate_0e8fd_14 : decode cJ2_inflate_0e8fd 14 = .ok (.if_icmp .ge 27, 3) := by decide +kernel
theorem dJ2_inflate_0e8fd_17 : decode cJ2_inflate_0e8fd 17 = .ok (.aload_n 2, 1) := by decide +kernel
theorem dJ2_inflate_0e8fd_18 : decode cJ2_inflate_0e8fd 18 = .ok (.iload_n 3, 1) := by decide +kernel
theorem dJ2_inflate_0e8fd_19 : decode cJ2_inflate_0e8fd 19 = .ok (.iinc 3 1, 3) := by decide +kernel
theorem dJ2_inflate_0e8fd_22 : decode cJ2_inflate_0e8fd 22 = .ok (.aload_n 0, 1) := by decide +kernel
theorem dJ2_inflate_0e8fd_23 : decode cJ2_inflate_0e8fd 23 = .ok (.iload_n 1, 1) := by decide +kernel
theorem dJ2_inflate_0e8fd_24 : decode cJ2_inflate_0e8fd 24 = .ok (.iinc 1 1, 3) := by decide +kernel
theorem dJ2_inflate_0e8fd_27 : decode cJ2_inflate_0e8fd 27 = .ok (.baload, 1) := by decide +kernel
theorem dJ2_inflate_0e8fd_28 : decode cJ2_inflate_0e8fd 28 = .ok (.sipush 255, 3) := by decide +kernel
theorem dJ2_inflate_0e8fd_31 : decode cJ2_inflate_0e8fd 31 = .ok (.iand, 1) := by decide +kernel
theorem dJ2_inflate_0e8fd_32 : decode cJ2_inflate_0e8fd 32 = .ok (.invokestatic 111, 3) := by decide +kernel
theorem dJ2_inflate_0e8fd_35 : decode cJ2_inflate_0e8fd 35 = .ok (.iinc 5 1, 3) := by decide +kernel
theorem dJ2_inflate_0e8fd_38 : decode cJ2_inflate_0e8fd 38 = .ok (.goto (-28), 3) := by decide +kernel
theorem dJ2_inflate_0e8fd_41 : decode cJ2_inflate_0e8fd 41 = .ok (.return_, 1) := by decide +kernel
theorem dJ2_getChars_ba4f3_0 : decode cJ2_getChars_ba4f3 0 = .ok (.iload_n 1, 1) := by decide +kernel
theorem dJ2_getChars_ba4f3_1 : decode cJ2_getChars_ba4f3 1 = .ok (.istore 5, 2) := by decide +kernel
theorem dJ2_getChars_ba4f3_3 : decode cJ2_getChars_ba4f3 3 = .ok (.iload_n 0, 1) := by decide +kernel
theorem dJ2_getChars_ba4f3_4 : decode cJ2_getChars_ba4f3 4 = .ok (.ifCond .ge 7, 3) := by decide +kernel
theorem dJ2_getChars_ba4f3_7 : decode cJ2_getChars_ba4f3 7 = .ok (.iconst 1, 1) := by decide +kernel
theorem dJ2_getChars_ba4f3_8 : decode cJ2_getChars_ba4f3 8 = .ok (.goto 4, 3) := by decide +kernel
theorem dJ2_getChars_ba4f3_11 : decode cJ2_getChars_ba4f3 11 = .ok (.iconst 0, 1) := by decide +kernel
theorem dJ2_getChars_ba4f3_12 : decode cJ2_getChars_ba4f3 12 = .ok (.istore 6, 2) := by decide +kernel
theorem dJ2_getChars_ba4f3_14 : decode cJ2_getChars_ba4f3 14 = .ok (.iload 6, 2) := by decide +kernel
theorem dJ2_getChars_ba4f3_16 : decode cJ2_getChars_ba4f3 16 = .ok (.ifCond .ne 6, 3) := by decide +kernel
theorem dJ2_getChars_ba4f3_19 : decode cJ2_getChars_ba4f3 19 = .ok (.iload_n 0, 1) := by decide +kernel
theorem dJ2_getChars_ba4f3_20 : decode cJ2_getChars_ba4f3 20 = .ok (.ineg, 1) := by decide +kernel
theorem dJ2_getChars_ba4f3_21 : decode cJ2_getChars_ba4f3 21 = .ok (.istore_n 0, 1) := by decide +kernel
theorem dJ2_getChars_ba4f3_22 : decode cJ2_getChars_ba4f3 22 = .ok (.iload_n 0, 1) := by decide +kernel
theorem dJ2_getChars_ba4f3_23 : decode cJ2_getChars_ba4f3 23 = .ok (.bipush (-100), 2) := by decide +kernel
theorem dJ2_getChars_ba4f3_25 : decode cJ2_getChars_ba4f3 25 = .ok (.if_icmp .gt 51, 3) := by decide +kernel
theorem dJ2_getChars_ba4f3_28 : decode cJ2_getChars_ba4f3 28 = .ok (.iload_n 0, 1) := by decide +kernel
theorem dJ2_getChars_ba4f3_29 : decode cJ2_getChars_ba4f3 29 = .ok (.bipush 100, 2) := by decide +kernel
theorem dJ2_getChars_ba4f3_31 : decode cJ2_getChars_ba4f3 31 = .ok (.idiv, 1) := by decide +kernel
theorem dJ2_getChars_ba4f3_32 : decode cJ2_getChars_ba4f3 32 = .ok (.istore_n 3, 1) := by decide +kernel
theorem dJ2_getChars_ba4f3_33 : decode cJ2_getChars_ba4f3 33 = .ok (.iload_n 3, 1) := by decide +kernel
theorem dJ2_getChars_ba4f3_34 : decode cJ2_getChars_ba4f3 34 = .ok (.bipush 100, 2) := by decide +kernel
theorem dJ2_getChars_ba4f3_36 : decode cJ2_getChars_ba4f3 36 = .ok (.imul, 1) := by decide +kernel
theorem dJ2_getChars_ba4f3_37 : decode cJ2_getChars_ba4f3 37 = .ok (.iload_n 0, 1) := by decide +kernel
theorem dJ2_getChars_ba4f3_38 : decode cJ2_getChars_ba4f3 38 = .ok (.isub, 1) := by decide +kernel
theorem dJ2_getChars_ba4f3_39 : decode cJ2_getChars_ba4f3 39 = .ok (.istore 4, 2) := by decide +kernel
theorem dJ2_getChars_ba4f3_41 : decode cJ2_getChars_ba4f3 41 = .ok (.iload_n 3, 1) := by decide +kernel
theorem dJ2_getChars_ba4f3_42 : decode cJ2_getChars_ba4f3 42 = .ok (.istore_n 0, 1) := by decide +kernel
theorem dJ2_getChars_ba4f3_43 : decode cJ2_getChars_ba4f3 43 = .ok (.aload_n 2, 1) := by decide +kernel
theorem dJ2_getChars_ba4f3_44 : decode cJ2_getChars_ba4f3 44 = .ok (.iinc 5 (-1), 3) := by decide +kernel
theorem dJ2_getChars_ba4f3_47 : decode cJ2_getChars_ba4f3 47 = .ok (.iload 5, 2) := by decide +kernel
theorem dJ2_getChars_ba4f3_49 : decode cJ2_getChars_ba4f3 49 = .ok (.getstatic 403, 3) := by decide +kernel
theorem dJ2_getChars_ba4f3_52 : decode cJ2_getChars_ba4f3 52 = .ok (.iload 4, 2) := by decide +kernel
theorem dJ2_getChars_ba4f3_54 : decode cJ2_getChars_ba4f3 54 = .ok (.baload, 1) := by decide +kernel
theorem dJ2_getChars_ba4f3_55 : decode cJ2_getChars_ba4f3 55 = .ok (.invokestatic 111, 3) := by decide +kernel
theorem dJ2_getChars_ba4f3_58 : decode cJ2_getChars_ba4f3 58 = .ok (.aload_n 2, 1) := by decide +kernel
theorem dJ2_getChars_ba4f3_59 : decode cJ2_getChars_ba4f3 59 = .ok (.iinc 5 (-1), 3) := by decide +kernel
theorem dJ2_getChars_ba4f3_62 : decode cJ2_getChars_ba4f3 62 = .ok (.iload 5, 2) := by decide +kernel
theorem dJ2_getChars_ba4f3_64 : decode cJ2_getChars_ba4f3 64 = .ok (.getstatic 407, 3) := by decide +kernel
theorem dJ2_getChars_ba4f3_67 : decode cJ2_getChars_ba4f3 67 = .ok (.iload 4, 2) := by decide +kernel
theorem dJ2_getChars_ba4f3_69 : decode cJ2_getChars_ba4f3 69 = .ok (.baload, 1) := by decide +kernel
theorem dJ2_getChars_ba4f3_70 : decode cJ2_getChars_ba4f3 70 = .ok (.invokestatic 111, 3) := by decide +kernel
theorem dJ2_getChars_ba4f3_73 : decode cJ2_getChars_ba4f3 73 = .ok (.goto (-51), 3) := by decide +kernel
theorem dJ2_getChars_ba4f3_76 : decode cJ2_getChars_ba4f3 76 = .ok (.aload_n 2, 1) := by decide +kernel
theorem dJ2_getChars_ba4f3_77 : decode cJ2_getChars_ba4f3 77 = .ok (.iinc 5 (-1), 3) := by decide +kernel
theorem dJ2_getChars_ba4f3_80 : decode cJ2_getChars_ba4f3 80 = .ok (.iload 5, 2) := by decide +kernel
theorem dJ2_getChars_ba4f3_82 : decode cJ2_getChars_ba4f3 82 = .ok (.getstatic 403, 3) := by decide +kernel
theorem dJ2_getChars_ba4f3_85 : decode cJ2_getChars_ba4f3 85 = .ok (.iload_n 0, 1) := by decide +kernel
theorem dJ2_getChars_ba4f3_86 : decode cJ2_getChars_ba4f3 86 = .ok (.ineg, 1) := by decide +kernel
theorem dJ2_getChars_ba4f3_87 : decode cJ2_getChars_ba4f3 87 = .ok (.baload, 1) := by decide +kernel
theorem dJ2_getChars_ba4f3_88 : decode cJ2_getChars_ba4f3 88 = .ok (.invokestatic 111, 3) := by decide +kernel
theorem dJ2_getChars_ba4f3_91 : decode cJ2_getChars_ba4f3 91 = .ok (.iload_n 0, 1) := by decide +kernel
theorem dJ2_getChars_ba4f3_92 : decode cJ2_getChars_ba4f3 92 = .ok (.bipush (-9), 2) := by decide +kernel
theorem dJ2_getChars_ba4f3_94 : decode cJ2_getChars_ba4f3 94 = .ok (.if_icmp .ge 18, 3) := by decide +kernel
theorem dJ2_getChars_ba4f3_97 : decode cJ2_getChars_ba4f3 97 = .ok (.aload_n 2, 1) := by decide +kernel
theorem dJ2_getChars_ba4f3_98 : decode cJ2_getChars_ba4f3 98 = .ok (.iinc 5 (-1), 3) := by decide +kernel
theorem dJ2_getChars_ba4f3_101 : decode cJ2_getChars_ba4f3 101 = .ok (.iload 5, 2) := by decide +kernel
theorem dJ2_getChars_ba4f3_103 : decode cJ2_getChars_ba4f3 103 = .ok (.getstatic 407, 3) := by decide +kernel
theorem dJ2_getChars_ba4f3_106 : decode cJ2_getChars_ba4f3 106 = .ok (.iload_n 0, 1) := by decide +kernel
theorem dJ2_getChars_ba4f3_107 : decode cJ2_getChars_ba4f3 107 = .ok (.ineg, 1) := by decide +kernel
theorem dJ2_getChars_ba4f3_108 : decode cJ2_getChars_ba4f3 108 = .ok (.baload, 1) := by decide +kernel
theorem dJ2_getChars_ba4f3_109 : decode cJ2_getChars_ba4f3 109 = .ok (.invokestatic 111, 3) := by decide +kernel
theorem dJ2_getChars_ba4f3_112 : decode cJ2_getChars_ba4f3 112 = .ok (.iload 6, 2) := by decide +kernel
theorem dJ2_getChars_ba4f3_114 : decode cJ2_getChars_ba4f3 114 = .ok (.ifCond .eq 14, 3) := by decide +kernel
theorem dJ2_getChars_ba4f3_117 : decode cJ2_getChars_ba4f3 117 = .ok (.aload_n 2, 1) := by decide +kernel
theorem dJ2_getChars_ba4f3_118 : decode cJ2_getChars_ba4f3 118 = .ok (.iinc 5 (-1), 3) := by decide +kernel
theorem dJ2_getChars_ba4f3_121 : decode cJ2_getChars_ba4f3 121 = .ok (.iload 5, 2) := by decide +kernel
theorem dJ2_getChars_ba4f3_123 : decode cJ2_getChars_ba4f3 123 = .ok (.bipush 45, 2) := by decide +kernel
theorem dJ2_getChars_ba4f3_125 : decode cJ2_getChars_ba4f3 125 = .ok (.invokestatic 111, 3) := by decide +kernel
theorem dJ2_getChars_ba4f3_128 : decode cJ2_getChars_ba4f3 128 = .ok (.iload 5, 2) := by decide +kernel
theorem dJ2_getChars_ba4f3_130 : decode cJ2_getChars_ba4f3 130 = .ok (.ireturn, 1) := by decide +kernel
theorem dJ2_getChars_11360_0 : decode cJ2_getChars_11360 0 = .ok (.iload_n 2, 1) := by decide +kernel
theorem dJ2_getChars_11360_1 : decode cJ2_getChars_11360 1 = .ok (.istore 7, 2) := by decide +kernel
theorem dJ2_getChars_11360_3 : decode cJ2_getChars_11360 3 = .ok (.lload_n 0, 1) := by decide +kernel
theorem dJ2_getChars_11360_4 : decode cJ2_getChars_11360 4 = .ok (.lconst 0, 1) := by decide +kernel
theorem dJ2_getChars_11360_5 : decode cJ2_getChars_11360 5 = .ok (.lcmp, 1) := by decide +kernel
theorem dJ2_getChars_11360_6 : decode cJ2_getChars_11360 6 = .ok (.ifCond .ge 7, 3) := by decide +kernel
theorem dJ2_getChars_11360_9 : decode cJ2_getChars_11360 9 = .ok (.iconst 1, 1) := by decide +kernel
theorem dJ2_getChars_11360_10 : decode cJ2_getChars_11360 10 = .ok (.goto 4, 3) := by decide +kernel
theorem dJ2_getChars_11360_13 : decode cJ2_getChars_11360 13 = .ok (.iconst 0, 1) := by decide +kernel
theorem dJ2_getChars_11360_14 : decode cJ2_getChars_11360 14 = .ok (.istore 8, 2) := by decide +kernel
theorem dJ2_getChars_11360_16 : decode cJ2_getChars_11360 16 = .ok (.iload 8, 2) := by decide +kernel
theorem dJ2_getChars_11360_18 : decode cJ2_getChars_11360 18 = .ok (.ifCond .ne 6, 3) := by decide +kernel
theorem dJ2_getChars_11360_21 : decode cJ2_getChars_11360 21 = .ok (.lload_n 0, 1) := by decide +kernel
theorem dJ2_getChars_11360_22 : decode cJ2_getChars_11360 22 = .ok (.lneg, 1) := by decide +kernel
theorem dJ2_getChars_11360_23 : decode cJ2_getChars_11360 23 = .ok (.lstore_n 0, 1) := by decide +kernel
theorem dJ2_getChars_11360_24 : decode cJ2_getChars_11360 24 = .ok (.lload_n 0, 1) := by decide +kernel
theorem dJ2_getChars_11360_25 : decode cJ2_getChars_11360 25 = .ok (.ldc2_w 410, 3) := by decide +kernel
theorem dJ2_getChars_11360_28 : decode cJ2_getChars_11360 28 = .ok (.lcmp, 1) := by decide +kernel
theorem dJ2_getChars_11360_29 : decode cJ2_getChars_11360 29 = .ok (.ifCond .gt 57, 3) := by decide +kernel
theorem dJ2_getChars_11360_32 : decode cJ2_getChars_11360 32 = .ok (.lload_n 0, 1) := by decide +kernel
theorem dJ2_getChars_11360_33 : decode cJ2_getChars_11360 33 = .ok (.ldc2_w 412, 3) := by decide +kernel
theorem dJ2_getChars_11360_36 : decode cJ2_getChars_11360 36 = .ok (.ldiv, 1) := by decide +kernel
theorem dJ2_getChars_11360_37 : decode cJ2_getChars_11360 37 = .ok (.lstore 4, 2) := by decide +kernel
theorem dJ2_getChars_11360_39 : decode cJ2_getChars_11360 39 = .ok (.lload 4, 2) := by decide +kernel
theorem dJ2_getChars_11360_41 : decode cJ2_getChars_11360 41 = .ok (.ldc2_w 412, 3) := by decide +kernel
theorem dJ2_getChars_11360_44 : decode cJ2_getChars_11360 44 = .ok (.lmul, 1) := by decide +kernel
theorem dJ2_getChars_11360_45 : decode cJ2_getChars_11360 45 = .ok (.lload_n 0, 1) := by decide +kernel
theorem dJ2_getChars_11360_46 : decode cJ2_getChars_11360 46 = .ok (.lsub, 1) := by decide +kernel
theorem dJ2_getChars_11360_47 : decode cJ2_getChars_11360 47 = .ok (.l2i, 1) := by decide +kernel
theorem dJ2_getChars_11360_48 : decode cJ2_getChars_11360 48 = .ok (.istore 6, 2) := by decide +kernel
theorem dJ2_getChars_11360_50 : decode cJ2_getChars_11360 50 = .ok (.lload 4, 2) := by decide +kernel
theorem dJ2_getChars_11360_52 : decode cJ2_getChars_11360 52 = .ok (.lstore_n 0, 1) := by decide +kernel
theorem dJ2_getChars_11360_53 : decode cJ2_getChars_11360 53 = .ok (.aload_n 3, 1) := by decide +kernel
theorem dJ2_getChars_11360_54 : decode cJ2_getChars_11360 54 = .ok (.iinc 7 (-1), 3) := by decide +kernel
theorem dJ2_getChars_11360_57 : decode cJ2_getChars_11360 57 = .ok (.iload 7, 2) := by decide +kernel
theorem dJ2_getChars_11360_59 : decode cJ2_getChars_11360 59 = .ok (.getstatic 403, 3) := by decide +kernel
theorem dJ2_getChars_11360_62 : decode cJ2_getChars_11360 62 = .ok (.iload 6, 2) := by decide +kernel
theorem dJ2_getChars_11360_64 : decode cJ2_getChars_11360 64 = .ok (.baload, 1) := by decide +kernel
theorem dJ2_getChars_11360_65 : decode cJ2_getChars_11360 65 = .ok (.invokestatic 111, 3) := by decide +kernel
theorem dJ2_getChars_11360_68 : decode cJ2_getChars_11360 68 = .ok (.aload_n 3, 1) := by decide +kernel
theorem dJ2_getChars_11360_69 : decode cJ2_getChars_11360 69 = .ok (.iinc 7 (-1), 3) := by decide +kernel
theorem dJ2_getChars_11360_72 : decode cJ2_getChars_11360 72 = .ok (.iload 7, 2) := by decide +kernel
theorem dJ2_getChars_11360_74 : decode cJ2_getChars_11360 74 = .ok (.getstatic 407, 3) := by decide +kernel
theorem dJ2_getChars_11360_77 : decode cJ2_getChars_11360 77 = .ok (.iload 6, 2) := by decide +kernel
theorem dJ2_getChars_11360_79 : decode cJ2_getChars_11360 79 = .ok (.baload, 1) := by decide +kernel
theorem dJ2_getChars_11360_80 : decode cJ2_getChars_11360 80 = .ok (.invokestatic 111, 3) := by decide +kernel
theorem dJ2_getChars_11360_83 : decode cJ2_getChars_11360 83 = .ok (.goto (-59), 3) := by decide +kernel
theorem dJ2_getChars_11360_86 : decode cJ2_getChars_11360 86 = .ok (.lload_n 0, 1) := by decide +kernel
theorem dJ2_getChars_11360_87 : decode cJ2_getChars_11360 87 = .ok (.l2i, 1) := by decide +kernel
theorem dJ2_getChars_11360_88 : decode cJ2_getChars_11360 88 = .ok (.istore 10, 2) := by decide +kernel
theorem dJ2_getChars_11360_90 : decode cJ2_getChars_11360 90 = .ok (.iload 10, 2) := by decide +kernel
theorem dJ2_getChars_11360_92 : decode cJ2_getChars_11360 92 = .ok (.bipush (-100), 2) := by decide +kernel
theorem dJ2_getChars_11360_94 : decode cJ2_getChars_11360 94 = .ok (.if_icmp .gt 57, 3) := by decide +kernel
theorem dJ2_getChars_11360_97 : decode cJ2_getChars_11360 97 = .ok (.iload 10, 2) := by decide +kernel
theorem dJ2_getChars_11360_99 : decode cJ2_getChars_11360 99 = .ok (.bipush 100, 2) := by decide +kernel
theorem dJ2_getChars_11360_101 : decode cJ2_getChars_11360 101 = .ok (.idiv, 1) := by decide +kernel
theorem dJ2_getChars_11360_102 : decode cJ2_getChars_11360 102 = .ok (.istore 9, 2) := by decide +kernel
theorem dJ2_getChars_11360_104 : decode cJ2_getChars_11360 104 = .ok (.iload 9, 2) := by decide +kernel
theorem dJ2_getChars_11360_106 : decode cJ2_getChars_11360 106 = .ok (.bipush 100, 2) := by decide +kernel
theorem dJ2_getChars_11360_108 : decode cJ2_getChars_11360 108 = .ok (.imul, 1) := by decide +kernel
theorem dJ2_getChars_11360_109 : decode cJ2_getChars_11360 109 = .ok (.iload 10, 2) := by decide +kernel
theorem dJ2_getChars_11360_111 : decode cJ2_getChars_11360 111 = .ok (.isub, 1) := by decide +kernel
theorem dJ2_getChars_11360_112 : decode cJ2_getChars_11360 112 = .ok (.istore 6, 2) := by decide +kernel
theorem dJ2_getChars_11360_114 : decode cJ2_getChars_11360 114 = .ok (.iload 9, 2) := by decide +kernel
theorem dJ2_getChars_11360_116 : decode cJ2_getChars_11360 116 = .ok (.istore 10, 2) := by decide +kernel
theorem dJ2_getChars_11360_118 : decode cJ2_getChars_11360 118 = .ok (.aload_n 3, 1) := by decide +kernel
theorem dJ2_getChars_11360_119 : decode cJ2_getChars_11360 119 = .ok (.iinc 7 (-1), 3) := by decide +kernel
theorem dJ2_getChars_11360_122 : decode cJ2_getChars_11360 122 = .ok (.iload 7, 2) := by decide +kernel
theorem dJ2_getChars_11360_124 : decode cJ2_getChars_11360 124 = .ok (.getstatic 403, 3) := by decide +kernel
theorem dJ2_getChars_11360_127 : decode cJ2_getChars_11360 127 = .ok (.iload 6, 2) := by decide +kernel
theorem dJ2_getChars_11360_129 : decode cJ2_getChars_11360 129 = .ok (.baload, 1) := by decide +kernel
theorem dJ2_getChars_11360_130 : decode cJ2_getChars_11360 130 = .ok (.invokestatic 111, 3) := by decide +kernel
theorem dJ2_getChars_11360_133 : decode cJ2_getChars_11360 133 = .ok (.aload_n 3, 1) := by decide +kernel
theorem dJ2_getChars_11360_134 : decode cJ2_getChars_11360 134 = .ok (.iinc 7 (-1), 3) := by decide +kernel
theorem dJ2_getChars_11360_137 : decode cJ2_getChars_11360 137 = .ok (.iload 7, 2) := by decide +kernel
theorem dJ2_getChars_11360_139 : decode cJ2_getChars_11360 139 = .ok (.getstatic 407, 3) := by decide +kernel
theorem dJ2_getChars_11360_142 : decode cJ2_getChars_11360 142 = .ok (.iload 6, 2) := by decide +kernel
theorem dJ2_getChars_11360_144 : decode cJ2_getChars_11360 144 = .ok (.baload, 1) := by decide +kernel
theorem dJ2_getChars_11360_145 : decode cJ2_getChars_11360 145 = .ok (.invokestatic 111, 3) := by decide +kernel
theorem dJ2_getChars_11360_148 : decode cJ2_getChars_11360 148 = .ok (.goto (-58), 3) := by decide +kernel
theorem dJ2_getChars_11360_151 : decode cJ2_getChars_11360 151 = .ok (.aload_n 3, 1) := by decide +kernel
theorem dJ2_getChars_11360_152 : decode cJ2_getChars_11360 152 = .ok (.iinc 7 (-1), 3) := by decide +kernel
theorem dJ2_getChars_11360_155 : decode cJ2_getChars_11360 155 = .ok (.iload 7, 2) := by decide +kernel
theorem dJ2_getChars_11360_157 : decode cJ2_getChars_11360 157 = .ok (.getstatic 403, 3) := by decide +kernel
theorem dJ2_getChars_11360_160 : decode cJ2_getChars_11360 160 = .ok (.iload 10, 2) := by decide +kernel
theorem dJ2_getChars_11360_162 : decode cJ2_getChars_11360 162 = .ok (.ineg, 1) := by decide +kernel
theorem dJ2_getChars_11360_163 : decode cJ2_getChars_11360 163 = .ok (.baload, 1) := by decide +kernel
theorem dJ2_getChars_11360_164 : decode cJ2_getChars_11360 164 = .ok (.invokestatic 111, 3) := by decide +kernel
theorem dJ2_getChars_11360_167 : decode cJ2_getChars_11360 167 = .ok (.iload 10, 2) := by decide +kernel
theorem dJ2_getChars_11360_169 : decode cJ2_getChars_11360 169 = .ok (.bipush (-9), 2) := by decide +kernel
theorem dJ2_getChars_11360_171 : decode cJ2_getChars_11360 171 = .ok (.if_icmp .ge 19, 3) := by decide +kernel
theorem dJ2_getChars_11360_174 : decode cJ2_getChars_11360 174 = .ok (.aload_n 3, 1) := by decide +kernel
theorem dJ2_getChars_11360_175 : decode cJ2_getChars_11360 175 = .ok (.iinc 7 (-1), 3) := by decide +kernel
theorem dJ2_getChars_11360_178 : decode cJ2_getChars_11360 178 = .ok (.iload 7, 2) := by decide +kernel
theorem dJ2_getChars_11360_180 : decode cJ2_getChars_11360 180 = .ok (.getstatic 407, 3) := by decide +kernel
theorem dJ2_getChars_11360_183 : decode cJ2_getChars_11360 183 = .ok (.iload 10, 2) := by decide +kernel
theorem dJ2_getChars_11360_185 : decode cJ2_getChars_11360 185 = .ok (.ineg, 1) := by decide +kernel
theorem dJ2_getChars_11360_186 : decode cJ2_getChars_11360 186 = .ok (.baload, 1) := by decide +kernel
theorem dJ2_getChars_11360_187 : decode cJ2_getChars_11360 187 = .ok (.invokestatic 111, 3) := by decide +kernel
theorem dJ2_getChars_11360_190 : decode cJ2_getChars_11360 190 = .ok (.iload 8, 2) := by decide +kernel
theorem dJ2_getChars_11360_192 : decode cJ2_getChars_11360 192 = .ok (.ifCond .eq 14, 3) := by decide +kernel
theorem dJ2_getChars_11360_195 : decode cJ2_getChars_11360 195 = .ok (.aload_n 3, 1) := by decide +kernel
theorem dJ2_getChars_11360_196 : decode cJ2_getChars_11360 196 = .ok (.iinc 7 (-1), 3) := by decide +kernel
theorem dJ2_getChars_11360_199 : decode cJ2_getChars_11360 199 = .ok (.iload 7, 2) := by decide +kernel
theorem dJ2_getChars_11360_201 : decode cJ2_getChars_11360 201 = .ok (.bipush 45, 2) := by decide +kernel
theorem dJ2_getChars_11360_203 : decode cJ2_getChars_11360 203 = .ok (.invokestatic 111, 3) := by decide +kernel
theorem dJ2_getChars_11360_206 : decode cJ2_getChars_11360 206 = .ok (.iload 7, 2) := by decide +kernel
theorem dJ2_getChars_11360_208 : decode cJ2_getChars_11360 208 = .ok (.ireturn, 1) := by decide +kernel
theorem dJ2_checkIndex_2214a_0 : decode cJ2_checkIndex_2214a 0 = .ok (.iload_n 0, 1) := by decide +kernel
theorem dJ2_checkIndex_2214a_1 : decode cJ2_checkIndex_2214a 1 = .ok (.aload_n 1, 1) := by decide +kernel
theorem dJ2_checkIndex_2214a_2 : decode cJ2_checkIndex_2214a 2 = .ok (.invokestatic 48, 3) := by decide +kernel
theorem dJ2_checkIndex_2214a_5 : decode cJ2_checkIndex_2214a 5 = .ok (.invokestatic 414, 3) := by decide +kernel
theorem dJ2_checkIndex_2214a_8 : decode cJ2_checkIndex_2214a 8 = .ok (.return_, 1) := by decide +kernel
theorem dJ2_checkBoundsBeginEnd_d044e_0 : decode cJ2_checkBoundsBeginEnd_d044e 0 = .ok (.iload_n 0, 1) := by decide +kernel
theorem dJ2_checkBoundsBeginEnd_d044e_1 : decode cJ2_checkBoundsBeginEnd_d044e 1 = .ok (.iload_n 1, 1) := by decide +kernel
theorem dJ2_checkBoundsBeginEnd_d044e_2 : decode cJ2_checkBoundsBeginEnd_d044e 2 = .ok (.aload_n 2, 1) := by decide +kernel
theorem dJ2_checkBoundsBeginEnd_d044e_3 : decode cJ2_checkBoundsBeginEnd_d044e 3 = .ok (.invokestatic 48, 3) := by decide +kernel
theorem dJ2_checkBoundsBeginEnd_d044e_6 : decode cJ2_checkBoundsBeginEnd_d044e 6 = .ok (.invokestatic 241, 3) := by decide +kernel
theorem dJ2_checkBoundsBeginEnd_d044e_9 : decode cJ2_checkBoundsBeginEnd_d044e 9 = .ok (.return_, 1) := by decide +kernel
theorem dJ2_checkBoundsOffCount_d044e_0 : decode cJ2_checkBoundsOffCount_d044e 0 = .ok (.iload_n 0, 1) := by decide +kernel
theorem dJ2_checkBoundsOffCount_d044e_1 : decode cJ2_checkBoundsOffCount_d044e 1 = .ok (.iload_n 1, 1) := by decide +kernel
theorem dJ2_checkBoundsOffCount_d044e_2 : decode cJ2_checkBoundsOffCount_d044e 2 = .ok (.aload_n 2, 1) := by decide +kernel
theorem dJ2_checkBoundsOffCount_d044e_3 : decode cJ2_checkBoundsOffCount_d044e 3 = .ok (.invokestatic 48, 3) := by decide +kernel
theorem dJ2_checkBoundsOffCount_d044e_6 : decode cJ2_checkBoundsOffCount_d044e 6 = .ok (.invokestatic 419, 3) := by decide +kernel
theorem dJ2_checkBoundsOffCount_d044e_9 : decode cJ2_checkBoundsOffCount_d044e 9 = .ok (.pop, 1) := by decide +kernel
theorem dJ2_checkBoundsOffCount_d044e_10 : decode cJ2_checkBoundsOffCount_d044e 10 = .ok (.return_, 1) := by decide +kernel
theorem dJxa1e45_init_da8c8_0 : decode cJxa1e45_init_da8c8 0 = .ok (.aload_n 0, 1) := by decide +kernel
theorem dJxa1e45_init_da8c8_1 : decode cJxa1e45_init_da8c8 1 = .ok (.invokespecial 1, 3) := by decide +kernel
theorem dJxa1e45_init_da8c8_4 : decode cJxa1e45_init_da8c8 4 = .ok (.return_, 1) := by decide +kernel
theorem dJxc12de_init_da8c8_0 : decode cJxc12de_init_da8c8 0 = .ok (.aload_n 0, 1) := by decide +kernel
theorem dJxc12de_init_da8c8_1 : decode cJxc12de_init_da8c8 1 = .ok (.invokespecial 1, 3) := by decide +kernel
theorem dJxc12de_init_da8c8_4 : decode cJxc12de_init_da8c8 4 = .ok (.aload_n 0, 1) := by decide +kernel
theorem dJxc12de_init_da8c8_5 : decode cJxc12de_init_da8c8 5 = .ok (.iconst 0, 1) := by decide +kernel
theorem dJxc12de_init_da8c8_6 : decode cJxc12de_init_da8c8 6 = .ok (.putfield 7, 3) := by decide +kernel
theorem dJxc12de_init_da8c8_9 : decode cJxc12de_init_da8c8 9 = .ok (.return_, 1) := by decide +kernel
theorem dJx4a65c_init_da8c8_0 : decode cJx4a65c_init_da8c8 0 = .ok (.aload_n 0, 1) := by decide +kernel
theorem dJx4a65c_init_da8c8_1 : decode cJx4a65c_init_da8c8 1 = .ok (.invokespecial 1, 3) := by decide +kernel
theorem dJx4a65c_init_da8c8_4 : decode cJx4a65c_init_da8c8 4 = .ok (.aload_n 0, 1) := by decide +kernel
theorem dJx4a65c_init_da8c8_5 : decode cJx4a65c_init_da8c8 5 = .ok (.getstatic 39, 3) := by decide +kernel
theorem dJx4a65c_init_da8c8_8 : decode cJx4a65c_init_da8c8 8 = .ok (.putfield 9, 3) := by decide +kernel
theorem dJx4a65c_init_da8c8_11 : decode cJx4a65c_init_da8c8 11 = .ok (.return_, 1) := by decide +kernel
theorem dJx4a65c_grow_92f84_0 : decode cJx4a65c_grow_92f84 0 = .ok (.aload_n 0, 1) := by decide +kernel
theorem dJx4a65c_grow_92f84_1 : decode cJx4a65c_grow_92f84 1 = .ok (.getfield 9, 3) := by decide +kernel
theorem dJx4a65c_grow_92f84_4 : decode cJx4a65c_grow_92f84 4 = .ok (.arraylength, 1) := by decide +kernel
theorem dJx4a65c_grow_92f84_5 : decode cJx4a65c_grow_92f84 5 = .ok (.istore_n 2, 1) := by decide +kernel
theorem dJx4a65c_grow_92f84_6 : decode cJx4a65c_grow_92f84 6 = .ok (.iload_n 2, 1) := by decide +kernel
theorem dJx4a65c_grow_92f84_7 : decode cJx4a65c_grow_92f84 7 = .ok (.ifCond .gt 13, 3) := by decide +kernel
theorem dJx4a65c_grow_92f84_10 : decode cJx4a65c_grow_92f84 10 = .ok (.aload_n 0, 1) := by decide +kernel
theorem dJx4a65c_grow_92f84_11 : decode cJx4a65c_grow_92f84 11 = .ok (.getfield 9, 3) := by decide +kernel
theorem dJx4a65c_grow_92f84_14 : decode cJx4a65c_grow_92f84 14 = .ok (.getstatic 39, 3) := by decide +kernel
theorem dJx4a65c_grow_92f84_17 : decode cJx4a65c_grow_92f84 17 = .ok (.if_acmp .eq 28, 3) := by decide +kernel
theorem dJx4a65c_grow_92f84_20 : decode cJx4a65c_grow_92f84 20 = .ok (.iload_n 2, 1) := by decide +kernel
theorem dJx4a65c_grow_92f84_21 : decode cJx4a65c_grow_92f84 21 = .ok (.iload_n 1, 1) := by decide +kernel
theorem dJx4a65c_grow_92f84_22 : decode cJx4a65c_grow_92f84 22 = .ok (.iload_n 2, 1) := by decide +kernel
theorem dJx4a65c_grow_92f84_23 : decode cJx4a65c_grow_92f84 23 = .ok (.isub, 1) := by decide +kernel
theorem dJx4a65c_grow_92f84_24 : decode cJx4a65c_grow_92f84 24 = .ok (.iload_n 2, 1) := by decide +kernel
theorem dJx4a65c_grow_92f84_25 : decode cJx4a65c_grow_92f84 25 = .ok (.iconst 1, 1) := by decide +kernel
theorem dJx4a65c_grow_92f84_26 : decode cJx4a65c_grow_92f84 26 = .ok (.ishr, 1) := by decide +kernel
theorem dJx4a65c_grow_92f84_27 : decode cJx4a65c_grow_92f84 27 = .ok (.invokestatic 73, 3) := by decide +kernel
theorem dJx4a65c_grow_92f84_30 : decode cJx4a65c_grow_92f84 30 = .ok (.istore_n 3, 1) := by decide +kernel
theorem dJx4a65c_grow_92f84_31 : decode cJx4a65c_grow_92f84 31 = .ok (.aload_n 0, 1) := by decide +kernel
theorem dJx4a65c_grow_92f84_32 : decode cJx4a65c_grow_92f84 32 = .ok (.aload_n 0, 1) := by decide +kernel
theorem dJx4a65c_grow_92f84_33 : decode cJx4a65c_grow_92f84 33 = .ok (.getfield 9, 3) := by decide +kernel
theorem dJx4a65c_grow_92f84_36 : decode cJx4a65c_grow_92f84 36 = .ok (.iload_n 3, 1) := by decide +kernel
theorem dJx4a65c_grow_92f84_37 : decode cJx4a65c_grow_92f84 37 = .ok (.invokestatic 66, 3) := by decide +kernel
theorem dJx4a65c_grow_92f84_40 : decode cJx4a65c_grow_92f84 40 = .ok (.dup_x1, 1) := by decide +kernel
theorem dJx4a65c_grow_92f84_41 : decode cJx4a65c_grow_92f84 41 = .ok (.putfield 9, 3) := by decide +kernel
theorem dJx4a65c_grow_92f84_44 : decode cJx4a65c_grow_92f84 44 = .ok (.areturn, 1) := by decide +kernel
theorem dJx4a65c_grow_92f84_45 : decode cJx4a65c_grow_92f84 45 = .ok (.aload_n 0, 1) := by decide +kernel
theorem dJx4a65c_grow_92f84_46 : decode cJx4a65c_grow_92f84 46 = .ok (.bipush 10, 2) := by decide +kernel
theorem dJx4a65c_grow_92f84_48 : decode cJx4a65c_grow_92f84 48 = .ok (.iload_n 1, 1) := by decide +kernel
theorem dJx4a65c_grow_92f84_49 : decode cJx4a65c_grow_92f84 49 = .ok (.invokestatic 79, 3) := by decide +kernel
theorem dJx4a65c_grow_92f84_52 : decode cJx4a65c_grow_92f84 52 = .ok (.anewarray 7, 3) := by decide +kernel
theorem dJx4a65c_grow_92f84_55 : decode cJx4a65c_grow_92f84 55 = .ok (.dup_x1, 1) := by decide +kernel
theorem dJx4a65c_grow_92f84_56 : decode cJx4a65c_grow_92f84 56 = .ok (.putfield 9, 3) := by decide +kernel
theorem dJx4a65c_grow_92f84_59 : decode cJx4a65c_grow_92f84 59 = .ok (.areturn, 1) := by decide +kernel
theorem dJx4a65c_grow_d5877_0 : decode cJx4a65c_grow_d5877 0 = .ok (.aload_n 0, 1) := by decide +kernel
theorem dJx4a65c_grow_d5877_1 : decode cJx4a65c_grow_d5877 1 = .ok (.aload_n 0, 1) := by decide +kernel
theorem dJx4a65c_grow_d5877_2 : decode cJx4a65c_grow_d5877 2 = .ok (.getfield 48, 3) := by decide +kernel
theorem dJx4a65c_grow_d5877_5 : decode cJx4a65c_grow_d5877 5 = .ok (.iconst 1, 1) := by decide +kernel
theorem dJx4a65c_grow_d5877_6 : decode cJx4a65c_grow_d5877 6 = .ok (.iadd, 1) := by decide +kernel
theorem dJx4a65c_grow_d5877_7 : decode cJx4a65c_grow_d5877 7 = .ok (.invokevirtual 69, 3) := by decide +kernel
theorem dJx4a65c_grow_d5877_10 : decode cJx4a65c_grow_d5877 10 = .ok (.areturn, 1) := by decide +kernel
theorem dJx4a65c_size_8abf5_0 : decode cJx4a65c_size_8abf5 0 = .ok (.aload_n 0, 1) := by decide +kernel
theorem dJx4a65c_size_8abf5_1 : decode cJx4a65c_size_8abf5 1 = .ok (.getfield 48, 3) := by decide +kernel
theorem dJx4a65c_size_8abf5_4 : decode cJx4a65c_size_8abf5 4 = .ok (.ireturn, 1) := by decide +kernel
theorem dJx4a65c_elementData_915e3_0 : decode cJx4a65c_elementData_915e3 0 = .ok (.aload_n 0, 1) := by decide +kernel
theorem dJx4a65c_elementData_915e3_1 : decode cJx4a65c_elementData_915e3 1 = .ok (.getfield 9, 3) := by decide +kernel
theorem dJx4a65c_elementData_915e3_4 : decode cJx4a65c_elementData_915e3 4 = .ok (.iload_n 1, 1) := by decide +kernel
theorem dJx4a65c_elementData_915e3_5 : decode cJx4a65c_elementData_915e3 5 = .ok (.aaload, 1) := by decide +kernel
theorem dJx4a65c_elementData_915e3_6 : decode cJx4a65c_elementData_915e3 6 = .ok (.areturn, 1) := by decide +kernel
theorem dJx4a65c_get_915e3_0 : decode cJx4a65c_get_915e3 0 = .ok (.iload_n 1, 1) := by decide +kernel
theorem dJx4a65c_get_915e3_1 : decode cJx4a65c_get_915e3 1 = .ok (.aload_n 0, 1) := by decide +kernel
theorem dJx4a65c_get_915e3_2 : decode cJx4a65c_get_915e3 2 = .ok (.getfield 48, 3) := by decide +kernel
theorem dJx4a65c_get_915e3_5 : decode cJx4a65c_get_915e3 5 = .ok (.invokestatic 118, 3) := by decide +kernel
theorem dJx4a65c_get_915e3_8 : decode cJx4a65c_get_915e3 8 = .ok (.pop, 1) := by decide +kernel
theorem dJx4a65c_get_915e3_9 : decode cJx4a65c_get_915e3 9 = .ok (.aload_n 0, 1) := by decide +kernel
theorem dJx4a65c_get_915e3_10 : decode cJx4a65c_get_915e3 10 = .ok (.iload_n 1, 1) := by decide +kernel
theorem dJx4a65c_get_915e3_11 : decode cJx4a65c_get_915e3 11 = .ok (.invokevirtual 123, 3) := by decide +kernel
theorem dJx4a65c_get_915e3_14 : decode cJx4a65c_get_915e3 14 = .ok (.areturn, 1) := by decide +kernel
theorem dJx4a65c_add_72be8_0 : decode cJx4a65c_add_72be8 0 = .ok (.iload_n 3, 1) := by decide +kernel
theorem dJx4a65c_add_72be8_1 : decode cJx4a65c_add_72be8 1 = .ok (.aload_n 2, 1) := by decide +kernel
theorem dJx4a65c_add_72be8_2 : decode cJx4a65c_add_72be8 2 = .ok (.arraylength, 1) := by decide +kernel
theorem dJx4a65c_add_72be8_3 : decode cJx4a65c_add_72be8 3 = .ok (.if_icmp .ne 8, 3) := by decide +kernel
theorem dJx4a65c_add_72be8_6 : decode cJx4a65c_add_72be8 6 = .ok (.aload_n 0, 1) := by decide +kernel
theorem dJx4a65c_add_72be8_7 : decode cJx4a65c_add_72be8 7 = .ok (.invokevirtual 129, 3) := by decide +kernel
theorem dJx4a65c_add_72be8_10 : decode cJx4a65c_add_72be8 10 = .ok (.astore_n 2, 1) := by decide +kernel
theorem dJx4a65c_add_72be8_11 : decode cJx4a65c_add_72be8 11 = .ok (.aload_n 2, 1) := by decide +kernel
theorem dJx4a65c_add_72be8_12 : decode cJx4a65c_add_72be8 12 = .ok (.iload_n 3, 1) := by decide +kernel
theorem dJx4a65c_add_72be8_13 : decode cJx4a65c_add_72be8 13 = .ok (.aload_n 1, 1) := by decide +kernel
theorem dJx4a65c_add_72be8_14 : decode cJx4a65c_add_72be8 14 = .ok (.aastore, 1) := by decide +kernel
theorem dJx4a65c_add_72be8_15 : decode cJx4a65c_add_72be8 15 = .ok (.aload_n 0, 1) := by decide +kernel
theorem dJx4a65c_add_72be8_16 : decode cJx4a65c_add_72be8 16 = .ok (.iload_n 3, 1) := by decide +kernel
theorem dJx4a65c_add_72be8_17 : decode cJx4a65c_add_72be8 17 = .ok (.iconst 1, 1) := by decide +kernel
theorem dJx4a65c_add_72be8_18 : decode cJx4a65c_add_72be8 18 = .ok (.iadd, 1) := by decide +kernel
theorem dJx4a65c_add_72be8_19 : decode cJx4a65c_add_72be8 19 = .ok (.putfield 48, 3) := by decide +kernel
theorem dJx4a65c_add_72be8_22 : decode cJx4a65c_add_72be8 22 = .ok (.return_, 1) := by decide +kernel
theorem dJx4a65c_add_9ea2d_0 : decode cJx4a65c_add_9ea2d 0 = .ok (.aload_n 0, 1) := by decide +kernel
theorem dJx4a65c_add_9ea2d_1 : decode cJx4a65c_add_9ea2d 1 = .ok (.dup, 1) := by decide +kernel
theorem dJx4a65c_add_9ea2d_2 : decode cJx4a65c_add_9ea2d 2 = .ok (.getfield 63, 3) := by decide +kernel
theorem dJx4a65c_add_9ea2d_5 : decode cJx4a65c_add_9ea2d 5 = .ok (.iconst 1, 1) := by decide +kernel
theorem dJx4a65c_add_9ea2d_6 : decode cJx4a65c_add_9ea2d 6 = .ok (.iadd, 1) := by decide +kernel
theorem dJx4a65c_add_9ea2d_7 : decode cJx4a65c_add_9ea2d 7 = .ok (.putfield 63, 3) := by decide +kernel
theorem dJx4a65c_add_9ea2d_10 : decode cJx4a65c_add_9ea2d 10 = .ok (.aload_n 0, 1) := by decide +kernel
theorem dJx4a65c_add_9ea2d_11 : decode cJx4a65c_add_9ea2d 11 = .ok (.aload_n 1, 1) := by decide +kernel
theorem dJx4a65c_add_9ea2d_12 : decode cJx4a65c_add_9ea2d 12 = .ok (.aload_n 0, 1) := by decide +kernel
theorem dJx4a65c_add_9ea2d_13 : decode cJx4a65c_add_9ea2d 13 = .ok (.getfield 9, 3) := by decide +kernel
theorem dJx4a65c_add_9ea2d_16 : decode cJx4a65c_add_9ea2d 16 = .ok (.aload_n 0, 1) := by decide +kernel
theorem dJx4a65c_add_9ea2d_17 : decode cJx4a65c_add_9ea2d 17 = .ok (.getfield 48, 3) := by decide +kernel
theorem dJx4a65c_add_9ea2d_20 : decode cJx4a65c_add_9ea2d 20 = .ok (.invokevirtual 131, 3) := by decide +kernel
theorem dJx4a65c_add_9ea2d_23 : decode cJx4a65c_add_9ea2d 23 = .ok (.iconst 1, 1) := by decide +kernel
theorem dJx4a65c_add_9ea2d_24 : decode cJx4a65c_add_9ea2d 24 = .ok (.ireturn, 1) := by decide +kernel
theorem dJ7_copyOf_1904c_0 : decode cJ7_copyOf_1904c 0 = .ok (.aload_n 0, 1) := by decide +kernel
theorem dJ7_copyOf_1904c_1 : decode cJ7_copyOf_1904c 1 = .ok (.iload_n 1, 1) := by decide +kernel
theorem dJ7_copyOf_1904c_2 : decode cJ7_copyOf_1904c 2 = .ok (.aload_n 0, 1) := by decide +kernel
theorem dJ7_copyOf_1904c_3 : decode cJ7_copyOf_1904c 3 = .ok (.invokevirtual 86, 3) := by decide +kernel
theorem dJ7_copyOf_1904c_6 : decode cJ7_copyOf_1904c 6 = .ok (.invokestatic 300, 3) := by decide +kernel
theorem dJ7_copyOf_1904c_9 : decode cJ7_copyOf_1904c 9 = .ok (.areturn, 1) := by decide +kernel
theorem dJ7_copyOf_6403c_0 : decode cJ7_copyOf_6403c 0 = .ok (.aload_n 2, 1) := by decide +kernel
theorem dJ7_copyOf_6403c_1 : decode cJ7_copyOf_6403c 1 = .ok (.ldc 110, 2) := by decide +kernel
theorem dJ7_copyOf_6403c_3 : decode cJ7_copyOf_6403c 3 = .ok (.if_acmp .ne 10, 3) := by decide +kernel
theorem dJ7_copyOf_6403c_6 : decode cJ7_copyOf_6403c 6 = .ok (.iload_n 1, 1) := by decide +kernel
theorem dJ7_copyOf_6403c_7 : decode cJ7_copyOf_6403c 7 = .ok (.anewarray 2, 3) := by decide +kernel
theorem dJ7_copyOf_6403c_10 : decode cJ7_copyOf_6403c 10 = .ok (.goto 14, 3) := by decide +kernel
theorem dJ7_copyOf_6403c_13 : decode cJ7_copyOf_6403c 13 = .ok (.aload_n 2, 1) := by decide +kernel
theorem dJ7_copyOf_6403c_14 : decode cJ7_copyOf_6403c 14 = .ok (.invokevirtual 90, 3) := by decide +kernel
theorem dJ7_copyOf_6403c_17 : decode cJ7_copyOf_6403c 17 = .ok (.iload_n 1, 1) := by decide +kernel
theorem dJ7_copyOf_6403c_18 : decode cJ7_copyOf_6403c 18 = .ok (.invokestatic 95, 3) := by decide +kernel
theorem dJ7_copyOf_6403c_21 : decode cJ7_copyOf_6403c 21 = .ok (.checkcast 110, 3) := by decide +kernel
theorem dJ7_copyOf_6403c_24 : decode cJ7_copyOf_6403c 24 = .ok (.astore_n 3, 1) := by decide +kernel
theorem dJ7_copyOf_6403c_25 : decode cJ7_copyOf_6403c 25 = .ok (.aload_n 0, 1) := by decide +kernel
theorem dJ7_copyOf_6403c_26 : decode cJ7_copyOf_6403c 26 = .ok (.iconst 0, 1) := by decide +kernel
theorem dJ7_copyOf_6403c_27 : decode cJ7_copyOf_6403c 27 = .ok (.aload_n 3, 1) := by decide +kernel
theorem dJ7_copyOf_6403c_28 : decode cJ7_copyOf_6403c 28 = .ok (.iconst 0, 1) := by decide +kernel
theorem dJ7_copyOf_6403c_29 : decode cJ7_copyOf_6403c 29 = .ok (.aload_n 0, 1) := by decide +kernel
theorem dJ7_copyOf_6403c_30 : decode cJ7_copyOf_6403c 30 = .ok (.arraylength, 1) := by decide +kernel
theorem dJ7_copyOf_6403c_31 : decode cJ7_copyOf_6403c 31 = .ok (.iload_n 1, 1) := by decide +kernel
theorem dJ7_copyOf_6403c_32 : decode cJ7_copyOf_6403c 32 = .ok (.invokestatic 304, 3) := by decide +kernel
theorem dJ7_copyOf_6403c_35 : decode cJ7_copyOf_6403c 35 = .ok (.invokestatic 150, 3) := by decide +kernel
theorem dJ7_copyOf_6403c_38 : decode cJ7_copyOf_6403c 38 = .ok (.aload_n 3, 1) := by decide +kernel
theorem dJ7_copyOf_6403c_39 : decode cJ7_copyOf_6403c 39 = .ok (.areturn, 1) := by decide +kernel
theorem dJ7_copyOf_9075b_0 : decode cJ7_copyOf_9075b 0 = .ok (.iload_n 1, 1) := by decide +kernel
theorem dJ7_copyOf_9075b_1 : decode cJ7_copyOf_9075b 1 = .ok (.aload_n 0, 1) := by decide +kernel
theorem dJ7_copyOf_9075b_2 : decode cJ7_copyOf_9075b 2 = .ok (.arraylength, 1) := by decide +kernel
theorem dJ7_copyOf_9075b_3 : decode cJ7_copyOf_9075b 3 = .ok (.if_icmp .ne 11, 3) := by decide +kernel
theorem dJ7_copyOf_9075b_6 : decode cJ7_copyOf_9075b 6 = .ok (.aload_n 0, 1) := by decide +kernel
theorem dJ7_copyOf_9075b_7 : decode cJ7_copyOf_9075b 7 = .ok (.invokevirtual 310, 3) := by decide +kernel
theorem dJ7_copyOf_9075b_10 : decode cJ7_copyOf_9075b 10 = .ok (.checkcast 311, 3) := by decide +kernel
theorem dJ7_copyOf_9075b_13 : decode cJ7_copyOf_9075b 13 = .ok (.areturn, 1) := by decide +kernel
theorem dJ7_copyOf_9075b_14 : decode cJ7_copyOf_9075b 14 = .ok (.iload_n 1, 1) := by decide +kernel
theorem dJ7_copyOf_9075b_15 : decode cJ7_copyOf_9075b 15 = .ok (.newarray .byte, 2) := by decide +kernel
theorem dJ7_copyOf_9075b_17 : decode cJ7_copyOf_9075b 17 = .ok (.astore_n 2, 1) := by decide +kernel
theorem dJ7_copyOf_9075b_18 : decode cJ7_copyOf_9075b 18 = .ok (.aload_n 0, 1) := by decide +kernel
theorem dJ7_copyOf_9075b_19 : decode cJ7_copyOf_9075b 19 = .ok (.iconst 0, 1) := by decide +kernel
theorem dJ7_copyOf_9075b_20 : decode cJ7_copyOf_9075b 20 = .ok (.aload_n 2, 1) := by decide +kernel
theorem dJ7_copyOf_9075b_21 : decode cJ7_copyOf_9075b 21 = .ok (.iconst 0, 1) := by decide +kernel
theorem dJ7_copyOf_9075b_22 : decode cJ7_copyOf_9075b 22 = .ok (.aload_n 0, 1) := by decide +kernel
theorem dJ7_copyOf_9075b_23 : decode cJ7_copyOf_9075b 23 = .ok (.arraylength, 1) := by decide +kernel
theorem dJ7_copyOf_9075b_24 : decode cJ7_copyOf_9075b 24 = .ok (.iload_n 1, 1) := by decide +kernel
theorem dJ7_copyOf_9075b_25 : decode cJ7_copyOf_9075b 25 = .ok (.invokestatic 304, 3) := by decide +kernel
theorem dJ7_copyOf_9075b_28 : decode cJ7_copyOf_9075b 28 = .ok (.invokestatic 150, 3) := by decide +kernel
theorem dJ7_copyOf_9075b_31 : decode cJ7_copyOf_9075b 31 = .ok (.aload_n 2, 1) := by decide +kernel
theorem dJ7_copyOf_9075b_32 : decode cJ7_copyOf_9075b 32 = .ok (.areturn, 1) := by decide +kernel
theorem dJ7_checkLength_df160_0 : decode cJ7_checkLength_df160 0 = .ok (.iload_n 1, 1) := by decide +kernel
theorem dJ7_checkLength_df160_1 : decode cJ7_checkLength_df160 1 = .ok (.iload_n 0, 1) := by decide +kernel
theorem dJ7_checkLength_df160_2 : decode cJ7_checkLength_df160 2 = .ok (.if_icmp .ge 35, 3) := by decide +kernel
theorem dJ7_checkLength_df160_5 : decode cJ7_checkLength_df160 5 = .ok (.new 43, 3) := by decide +kernel
theorem dJ7_checkLength_df160_8 : decode cJ7_checkLength_df160 8 = .ok (.dup, 1) := by decide +kernel
theorem dJ7_checkLength_df160_9 : decode cJ7_checkLength_df160 9 = .ok (.new 45, 3) := by decide +kernel
theorem dJ7_checkLength_df160_12 : decode cJ7_checkLength_df160 12 = .ok (.dup, 1) := by decide +kernel
theorem dJ7_checkLength_df160_13 : decode cJ7_checkLength_df160 13 = .ok (.invokespecial 47, 3) := by decide +kernel
theorem dJ7_checkLength_df160_16 : decode cJ7_checkLength_df160 16 = .ok (.iload_n 0, 1) := by decide +kernel
theorem dJ7_checkLength_df160_17 : decode cJ7_checkLength_df160 17 = .ok (.invokevirtual 54, 3) := by decide +kernel
theorem dJ7_checkLength_df160_20 : decode cJ7_checkLength_df160 20 = .ok (.ldc_w 337, 3) := by decide +kernel
theorem dJ7_checkLength_df160_23 : decode cJ7_checkLength_df160 23 = .ok (.invokevirtual 50, 3) := by decide +kernel
theorem dJ7_checkLength_df160_26 : decode cJ7_checkLength_df160 26 = .ok (.iload_n 1, 1) := by decide +kernel
theorem dJ7_checkLength_df160_27 : decode cJ7_checkLength_df160 27 = .ok (.invokevirtual 54, 3) := by decide +kernel
theorem dJ7_checkLength_df160_30 : decode cJ7_checkLength_df160 30 = .ok (.invokevirtual 61, 3) := by decide +kernel
theorem dJ7_checkLength_df160_33 : decode cJ7_checkLength_df160 33 = .ok (.invokespecial 65, 3) := by decide +kernel
theorem dJ7_checkLength_df160_36 : decode cJ7_checkLength_df160 36 = .ok (.athrow, 1) := by decide +kernel
theorem dJ7_checkLength_df160_37 : decode cJ7_checkLength_df160 37 = .ok (.return_, 1) := by decide +kernel
theorem dJ7_copyOfRange_39247_0 : decode cJ7_copyOfRange_39247 0 = .ok (.iload_n 1, 1) := by decide +kernel
theorem dJ7_copyOfRange_39247_1 : decode cJ7_copyOfRange_39247 1 = .ok (.ifCond .ne 9, 3) := by decide +kernel
theorem dJ7_copyOfRange_39247_4 : decode cJ7_copyOfRange_39247 4 = .ok (.iload_n 2, 1) := by decide +kernel
theorem dJ7_copyOfRange_39247_5 : decode cJ7_copyOfRange_39247 5 = .ok (.aload_n 0, 1) := by decide +kernel
theorem dJ7_copyOfRange_39247_6 : decode cJ7_copyOfRange_39247 6 = .ok (.arraylength, 1) := by decide +kernel
theorem dJ7_copyOfRange_39247_7 : decode cJ7_copyOfRange_39247 7 = .ok (.if_icmp .eq 10, 3) := by decide +kernel
theorem dJ7_copyOfRange_39247_10 : decode cJ7_copyOfRange_39247 10 = .ok (.aload_n 0, 1) := by decide +kernel
theorem dJ7_copyOfRange_39247_11 : decode cJ7_copyOfRange_39247 11 = .ok (.iload_n 1, 1) := by decide +kernel
theorem dJ7_copyOfRange_39247_12 : decode cJ7_copyOfRange_39247 12 = .ok (.iload_n 2, 1) := by decide +kernel
theorem dJ7_copyOfRange_39247_13 : decode cJ7_copyOfRange_39247 13 = .ok (.invokestatic 339, 3) := by decide +kernel
theorem dJ7_copyOfRange_39247_16 : decode cJ7_copyOfRange_39247 16 = .ok (.areturn, 1) := by decide +kernel
theorem dJ7_copyOfRange_39247_17 : decode cJ7_copyOfRange_39247 17 = .ok (.aload_n 0, 1) := by decide +kernel
theorem dJ7_copyOfRange_39247_18 : decode cJ7_copyOfRange_39247 18 = .ok (.invokevirtual 310, 3) := by decide +kernel
theorem dJ7_copyOfRange_39247_21 : decode cJ7_copyOfRange_39247 21 = .ok (.checkcast 311, 3) := by decide +kernel
theorem dJ7_copyOfRange_39247_24 : decode cJ7_copyOfRange_39247 24 = .ok (.areturn, 1) := by decide +kernel
theorem dJ7_copyOfRangeByte_39247_0 : decode cJ7_copyOfRangeByte_39247 0 = .ok (.iload_n 1, 1) := by decide +kernel
theorem dJ7_copyOfRangeByte_39247_1 : decode cJ7_copyOfRangeByte_39247 1 = .ok (.iload_n 2, 1) := by decide +kernel
theorem dJ7_copyOfRangeByte_39247_2 : decode cJ7_copyOfRangeByte_39247 2 = .ok (.invokestatic 343, 3) := by decide +kernel
theorem dJ7_copyOfRangeByte_39247_5 : decode cJ7_copyOfRangeByte_39247 5 = .ok (.iload_n 2, 1) := by decide +kernel
theorem dJ7_copyOfRangeByte_39247_6 : decode cJ7_copyOfRangeByte_39247 6 = .ok (.iload_n 1, 1) := by decide +kernel
theorem dJ7_copyOfRangeByte_39247_7 : decode cJ7_copyOfRangeByte_39247 7 = .ok (.isub, 1) := by decide +kernel
theorem dJ7_copyOfRangeByte_39247_8 : decode cJ7_copyOfRangeByte_39247 8 = .ok (.istore_n 3, 1) := by decide +kernel
theorem dJ7_copyOfRangeByte_39247_9 : decode cJ7_copyOfRangeByte_39247 9 = .ok (.iload_n 3, 1) := by decide +kernel
theorem dJ7_copyOfRangeByte_39247_10 : decode cJ7_copyOfRangeByte_39247 10 = .ok (.newarray .byte, 2) := by decide +kernel
theorem dJ7_copyOfRangeByte_39247_12 : decode cJ7_copyOfRangeByte_39247 12 = .ok (.astore 4, 2) := by decide +kernel
theorem dJ7_copyOfRangeByte_39247_14 : decode cJ7_copyOfRangeByte_39247 14 = .ok (.aload_n 0, 1) := by decide +kernel
theorem dJ7_copyOfRangeByte_39247_15 : decode cJ7_copyOfRangeByte_39247 15 = .ok (.iload_n 1, 1) := by decide +kernel
theorem dJ7_copyOfRangeByte_39247_16 : decode cJ7_copyOfRangeByte_39247 16 = .ok (.aload 4, 2) := by decide +kernel
theorem dJ7_copyOfRangeByte_39247_18 : decode cJ7_copyOfRangeByte_39247 18 = .ok (.iconst 0, 1) := by decide +kernel
theorem dJ7_copyOfRangeByte_39247_19 : decode cJ7_copyOfRangeByte_39247 19 = .ok (.aload_n 0, 1) := by decide +kernel
theorem dJ7_copyOfRangeByte_39247_20 : decode cJ7_copyOfRangeByte_39247 20 = .ok (.arraylength, 1) := by decide +kernel
theorem dJ7_copyOfRangeByte_39247_21 : decode cJ7_copyOfRangeByte_39247 21 = .ok (.iload_n 1, 1) := by decide +kernel
theorem dJ7_copyOfRangeByte_39247_22 : decode cJ7_copyOfRangeByte_39247 22 = .ok (.isub, 1) := by decide +kernel
theorem dJ7_copyOfRangeByte_39247_23 : decode cJ7_copyOfRangeByte_39247 23 = .ok (.iload_n 3, 1) := by decide +kernel
theorem dJ7_copyOfRangeByte_39247_24 : decode cJ7_copyOfRangeByte_39247 24 = .ok (.invokestatic 304, 3) := by decide +kernel
theorem dJ7_copyOfRangeByte_39247_27 : decode cJ7_copyOfRangeByte_39247 27 = .ok (.invokestatic 150, 3) := by decide +kernel
theorem dJ7_copyOfRangeByte_39247_30 : decode cJ7_copyOfRangeByte_39247 30 = .ok (.aload 4, 2) := by decide +kernel
theorem dJ7_copyOfRangeByte_39247_32 : decode cJ7_copyOfRangeByte_39247 32 = .ok (.areturn, 1) := by decide +kernel
theorem dJ15_checkIndex_7cf53_0 : decode cJ15_checkIndex_7cf53 0 = .ok (.iload_n 0, 1) := by decide +kernel
theorem dJ15_checkIndex_7cf53_1 : decode cJ15_checkIndex_7cf53 1 = .ok (.iload_n 1, 1) := by decide +kernel
theorem dJ15_checkIndex_7cf53_2 : decode cJ15_checkIndex_7cf53 2 = .ok (.aconst_null, 1) := by decide +kernel
theorem dJ15_checkIndex_7cf53_3 : decode cJ15_checkIndex_7cf53 3 = .ok (.invokestatic 105, 3) := by decide +kernel
theorem dJ15_checkIndex_7cf53_6 : decode cJ15_checkIndex_7cf53 6 = .ok (.ireturn, 1) := by decide +kernel
theorem dJx40b00_init_da8c8_0 : decode cJx40b00_init_da8c8 0 = .ok (.aload_n 0, 1) := by decide +kernel
theorem dJx40b00_init_da8c8_1 : decode cJx40b00_init_da8c8 1 = .ok (.invokespecial 5, 3) := by decide +kernel
theorem dJx40b00_init_da8c8_4 : decode cJx40b00_init_da8c8 4 = .ok (.aload_n 0, 1) := by decide +kernel
theorem dJx40b00_init_da8c8_5 : decode cJx40b00_init_da8c8 5 = .ok (.bipush 15, 2) := by decide +kernel
theorem dJx40b00_init_da8c8_7 : decode cJx40b00_init_da8c8 7 = .ok (.newarray .byte, 2) := by decide +kernel
theorem dJx40b00_init_da8c8_9 : decode cJx40b00_init_da8c8 9 = .ok (.putfield 11, 3) := by decide +kernel
theorem dJx40b00_init_da8c8_12 : decode cJx40b00_init_da8c8 12 = .ok (.return_, 1) := by decide +kernel
theorem dJx40b00_appendTo_8d9f2_0 : decode cJx40b00_appendTo_8d9f2 0 = .ok (.new 3, 3) := by decide +kernel
theorem dJx40b00_appendTo_8d9f2_3 : decode cJx40b00_appendTo_8d9f2 3 = .ok (.dup, 1) := by decide +kernel
theorem dJx40b00_appendTo_8d9f2_4 : decode cJx40b00_appendTo_8d9f2 4 = .ok (.invokespecial 15, 3) := by decide +kernel
theorem dJx40b00_appendTo_8d9f2_7 : decode cJx40b00_appendTo_8d9f2 7 = .ok (.fload_n 0, 1) := by decide +kernel
theorem dJx40b00_appendTo_8d9f2_8 : decode cJx40b00_appendTo_8d9f2 8 = .ok (.aload_n 1, 1) := by decide +kernel
theorem dJx40b00_appendTo_8d9f2_9 : decode cJx40b00_appendTo_8d9f2 9 = .ok (.invokevirtual 20, 3) := by decide +kernel
theorem dJx40b00_appendTo_8d9f2_12 : decode cJx40b00_appendTo_8d9f2 12 = .ok (.areturn, 1) := by decide +kernel
theorem dJx40b00_appendDecimalTo_8d9f2_0 : decode cJx40b00_appendDecimalTo_8d9f2 0 = .ok (.aload_n 0, 1) := by decide +kernel
theorem dJx40b00_appendDecimalTo_8d9f2_1 : decode cJx40b00_appendDecimalTo_8d9f2 1 = .ok (.fload_n 1, 1) := by decide +kernel
theorem dJx40b00_appendDecimalTo_8d9f2_2 : decode cJx40b00_appendDecimalTo_8d9f2 2 = .ok (.invokevirtual 24, 3) := by decide +kernel
theorem dJx40b00_appendDecimalTo_8d9f2_5 : decode cJx40b00_appendDecimalTo_8d9f2 5 = .ok (.tableswitch 190 0 4 #[35, 154, 163, 172, 181], 35) := by decide +kernel
theorem dJx40b00_appendDecimalTo_8d9f2_40 : decode cJx40b00_appendDecimalTo_8d9f2 40 = .ok (.aload_n 0, 1) := by decide +kernel
theorem dJx40b00_appendDecimalTo_8d9f2_41 : decode cJx40b00_appendDecimalTo_8d9f2 41 = .ok (.getfield 42, 3) := by decide +kernel
theorem dJx40b00_appendDecimalTo_8d9f2_44 : decode cJx40b00_appendDecimalTo_8d9f2 44 = .ok (.iconst 1, 1) := by decide +kernel
theorem dJx40b00_appendDecimalTo_8d9f2_45 : decode cJx40b00_appendDecimalTo_8d9f2 45 = .ok (.iadd, 1) := by decide +kernel
theorem dJx40b00_appendDecimalTo_8d9f2_46 : decode cJx40b00_appendDecimalTo_8d9f2 46 = .ok (.newarray .char, 2) := by decide +kernel
theorem dJx40b00_appendDecimalTo_8d9f2_48 : decode cJx40b00_appendDecimalTo_8d9f2 48 = .ok (.astore_n 3, 1) := by decide +kernel
theorem dJx40b00_appendDecimalTo_8d9f2_49 : decode cJx40b00_appendDecimalTo_8d9f2 49 = .ok (.iconst 0, 1) := by decide +kernel
theorem dJx40b00_appendDecimalTo_8d9f2_50 : decode cJx40b00_appendDecimalTo_8d9f2 50 = .ok (.istore 4, 2) := by decide +kernel
theorem dJx40b00_appendDecimalTo_8d9f2_52 : decode cJx40b00_appendDecimalTo_8d9f2 52 = .ok (.iload 4, 2) := by decide +kernel
theorem dJx40b00_appendDecimalTo_8d9f2_54 : decode cJx40b00_appendDecimalTo_8d9f2 54 = .ok (.aload_n 3, 1) := by decide +kernel
theorem dJx40b00_appendDecimalTo_8d9f2_55 : decode cJx40b00_appendDecimalTo_8d9f2 55 = .ok (.arraylength, 1) := by decide +kernel
theorem dJx40b00_appendDecimalTo_8d9f2_56 : decode cJx40b00_appendDecimalTo_8d9f2 56 = .ok (.if_icmp .ge 21, 3) := by decide +kernel
theorem dJx40b00_appendDecimalTo_8d9f2_59 : decode cJx40b00_appendDecimalTo_8d9f2 59 = .ok (.aload_n 3, 1) := by decide +kernel
theorem dJx40b00_appendDecimalTo_8d9f2_60 : decode cJx40b00_appendDecimalTo_8d9f2 60 = .ok (.iload 4, 2) := by decide +kernel
theorem dJx40b00_appendDecimalTo_8d9f2_62 : decode cJx40b00_appendDecimalTo_8d9f2 62 = .ok (.aload_n 0, 1) := by decide +kernel
theorem dJx40b00_appendDecimalTo_8d9f2_63 : decode cJx40b00_appendDecimalTo_8d9f2 63 = .ok (.getfield 11, 3) := by decide +kernel
theorem dJx40b00_appendDecimalTo_8d9f2_66 : decode cJx40b00_appendDecimalTo_8d9f2 66 = .ok (.iload 4, 2) := by decide +kernel
theorem dJx40b00_appendDecimalTo_8d9f2_68 : decode cJx40b00_appendDecimalTo_8d9f2 68 = .ok (.baload, 1) := by decide +kernel
theorem dJx40b00_appendDecimalTo_8d9f2_69 : decode cJx40b00_appendDecimalTo_8d9f2 69 = .ok (.i2c, 1) := by decide +kernel
theorem dJx40b00_appendDecimalTo_8d9f2_70 : decode cJx40b00_appendDecimalTo_8d9f2 70 = .ok (.castore, 1) := by decide +kernel
theorem dJx40b00_appendDecimalTo_8d9f2_71 : decode cJx40b00_appendDecimalTo_8d9f2 71 = .ok (.iinc 4 1, 3) := by decide +kernel
theorem dJx40b00_appendDecimalTo_8d9f2_74 : decode cJx40b00_appendDecimalTo_8d9f2 74 = .ok (.goto (-22), 3) := by decide +kernel
theorem dJx40b00_appendDecimalTo_8d9f2_77 : decode cJx40b00_appendDecimalTo_8d9f2 77 = .ok (.aload_n 2, 1) := by decide +kernel
theorem dJx40b00_appendDecimalTo_8d9f2_78 : decode cJx40b00_appendDecimalTo_8d9f2 78 = .ok (.instanceof 46, 3) := by decide +kernel
theorem dJx40b00_appendDecimalTo_8d9f2_81 : decode cJx40b00_appendDecimalTo_8d9f2 81 = .ok (.ifCond .eq 16, 3) := by decide +kernel
theorem dJx40b00_appendDecimalTo_8d9f2_84 : decode cJx40b00_appendDecimalTo_8d9f2 84 = .ok (.aload_n 2, 1) := by decide +kernel
theorem dJx40b00_appendDecimalTo_8d9f2_85 : decode cJx40b00_appendDecimalTo_8d9f2 85 = .ok (.checkcast 46, 3) := by decide +kernel
theorem dJx40b00_appendDecimalTo_8d9f2_88 : decode cJx40b00_appendDecimalTo_8d9f2 88 = .ok (.astore 4, 2) := by decide +kernel
theorem dJx40b00_appendDecimalTo_8d9f2_90 : decode cJx40b00_appendDecimalTo_8d9f2 90 = .ok (.aload 4, 2) := by decide +kernel
theorem dJx40b00_appendDecimalTo_8d9f2_92 : decode cJx40b00_appendDecimalTo_8d9f2 92 = .ok (.aload_n 3, 1) := by decide +kernel
theorem dJx40b00_appendDecimalTo_8d9f2_93 : decode cJx40b00_appendDecimalTo_8d9f2 93 = .ok (.invokevirtual 48, 3) := by decide +kernel
theorem dJx40b00_appendDecimalTo_8d9f2_96 : decode cJx40b00_appendDecimalTo_8d9f2 96 = .ok (.areturn, 1) := by decide +kernel
theorem dJx40b00_appendDecimalTo_8d9f2_97 : decode cJx40b00_appendDecimalTo_8d9f2 97 = .ok (.aload_n 2, 1) := by decide +kernel
theorem dJx40b00_appendDecimalTo_8d9f2_98 : decode cJx40b00_appendDecimalTo_8d9f2 98 = .ok (.instanceof 52, 3) := by decide +kernel
theorem dJx40b00_appendDecimalTo_8d9f2_101 : decode cJx40b00_appendDecimalTo_8d9f2 101 = .ok (.ifCond .eq 16, 3) := by decide +kernel
theorem dJx40b00_appendDecimalTo_8d9f2_104 : decode cJx40b00_appendDecimalTo_8d9f2 104 = .ok (.aload_n 2, 1) := by decide +kernel
theorem dJx40b00_appendDecimalTo_8d9f2_105 : decode cJx40b00_appendDecimalTo_8d9f2 105 = .ok (.checkcast 52, 3) := by decide +kernel
theorem dJx40b00_appendDecimalTo_8d9f2_108 : decode cJx40b00_appendDecimalTo_8d9f2 108 = .ok (.astore 4, 2) := by decide +kernel
theorem dJx40b00_appendDecimalTo_8d9f2_110 : decode cJx40b00_appendDecimalTo_8d9f2 110 = .ok (.aload 4, 2) := by decide +kernel
theorem dJx40b00_appendDecimalTo_8d9f2_112 : decode cJx40b00_appendDecimalTo_8d9f2 112 = .ok (.aload_n 3, 1) := by decide +kernel
theorem dJx40b00_appendDecimalTo_8d9f2_113 : decode cJx40b00_appendDecimalTo_8d9f2 113 = .ok (.invokevirtual 54, 3) := by decide +kernel
theorem dJx40b00_appendDecimalTo_8d9f2_116 : decode cJx40b00_appendDecimalTo_8d9f2 116 = .ok (.areturn, 1) := by decide +kernel
theorem dJx40b00_appendDecimalTo_8d9f2_117 : decode cJx40b00_appendDecimalTo_8d9f2 117 = .ok (.aload_n 3, 1) := by decide +kernel
theorem dJx40b00_appendDecimalTo_8d9f2_118 : decode cJx40b00_appendDecimalTo_8d9f2 118 = .ok (.astore 4, 2) := by decide +kernel
theorem dJx40b00_appendDecimalTo_8d9f2_120 : decode cJx40b00_appendDecimalTo_8d9f2 120 = .ok (.aload 4, 2) := by decide +kernel
theorem dJx40b00_appendDecimalTo_8d9f2_122 : decode cJx40b00_appendDecimalTo_8d9f2 122 = .ok (.arraylength, 1) := by decide +kernel
theorem dJx40b00_appendDecimalTo_8d9f2_123 : decode cJx40b00_appendDecimalTo_8d9f2 123 = .ok (.istore 5, 2) := by decide +kernel
theorem dJx40b00_appendDecimalTo_8d9f2_125 : decode cJx40b00_appendDecimalTo_8d9f2 125 = .ok (.iconst 0, 1) := by decide +kernel
theorem dJx40b00_appendDecimalTo_8d9f2_126 : decode cJx40b00_appendDecimalTo_8d9f2 126 = .ok (.istore 6, 2) := by decide +kernel
theorem dJx40b00_appendDecimalTo_8d9f2_128 : decode cJx40b00_appendDecimalTo_8d9f2 128 = .ok (.iload 6, 2) := by decide +kernel
theorem dJx40b00_appendDecimalTo_8d9f2_130 : decode cJx40b00_appendDecimalTo_8d9f2 130 = .ok (.iload 5, 2) := by decide +kernel
theorem dJx40b00_appendDecimalTo_8d9f2_132 : decode cJx40b00_appendDecimalTo_8d9f2 132 = .ok (.if_icmp .ge 25, 3) := by decide +kernel
theorem dJx40b00_appendDecimalTo_8d9f2_135 : decode cJx40b00_appendDecimalTo_8d9f2 135 = .ok (.aload 4, 2) := by decide +kernel
theorem dJx40b00_appendDecimalTo_8d9f2_137 : decode cJx40b00_appendDecimalTo_8d9f2 137 = .ok (.iload 6, 2) := by decide +kernel
theorem dJx40b00_appendDecimalTo_8d9f2_139 : decode cJx40b00_appendDecimalTo_8d9f2 139 = .ok (.caload, 1) := by decide +kernel
theorem dJx40b00_appendDecimalTo_8d9f2_140 : decode cJx40b00_appendDecimalTo_8d9f2 140 = .ok (.istore 7, 2) := by decide +kernel
theorem dJx40b00_appendDecimalTo_8d9f2_142 : decode cJx40b00_appendDecimalTo_8d9f2 142 = .ok (.aload_n 2, 1) := by decide +kernel
theorem dJx40b00_appendDecimalTo_8d9f2_143 : decode cJx40b00_appendDecimalTo_8d9f2 143 = .ok (.iload 7, 2) := by decide +kernel
theorem dJx40b00_appendDecimalTo_8d9f2_145 : decode cJx40b00_appendDecimalTo_8d9f2 145 = .ok (.invokeinterface 57 2, 5) := by decide +kernel
theorem dJx40b00_appendDecimalTo_8d9f2_150 : decode cJx40b00_appendDecimalTo_8d9f2 150 = .ok (.pop, 1) := by decide +kernel
theorem dJx40b00_appendDecimalTo_8d9f2_151 : decode cJx40b00_appendDecimalTo_8d9f2 151 = .ok (.iinc 6 1, 3) := by decide +kernel
theorem dJx40b00_appendDecimalTo_8d9f2_154 : decode cJx40b00_appendDecimalTo_8d9f2 154 = .ok (.goto (-26), 3) := by decide +kernel
theorem dJx40b00_appendDecimalTo_8d9f2_157 : decode cJx40b00_appendDecimalTo_8d9f2 157 = .ok (.aload_n 2, 1) := by decide +kernel
theorem dJx40b00_appendDecimalTo_8d9f2_158 : decode cJx40b00_appendDecimalTo_8d9f2 158 = .ok (.areturn, 1) := by decide +kernel
theorem dJx40b00_appendDecimalTo_8d9f2_159 : decode cJx40b00_appendDecimalTo_8d9f2 159 = .ok (.aload_n 2, 1) := by decide +kernel
theorem dJx40b00_appendDecimalTo_8d9f2_160 : decode cJx40b00_appendDecimalTo_8d9f2 160 = .ok (.ldc 32, 2) := by decide +kernel
theorem dJx40b00_appendDecimalTo_8d9f2_162 : decode cJx40b00_appendDecimalTo_8d9f2 162 = .ok (.invokeinterface 62 2, 5) := by decide +kernel
theorem dJx40b00_appendDecimalTo_8d9f2_167 : decode cJx40b00_appendDecimalTo_8d9f2 167 = .ok (.areturn, 1) := by decide +kernel
theorem dJx40b00_appendDecimalTo_8d9f2_168 : decode cJx40b00_appendDecimalTo_8d9f2 168 = .ok (.aload_n 2, 1) := by decide +kernel
theorem dJx40b00_appendDecimalTo_8d9f2_169 : decode cJx40b00_appendDecimalTo_8d9f2 169 = .ok (.ldc 34, 2) := by decide +kernel
theorem dJx40b00_appendDecimalTo_8d9f2_171 : decode cJx40b00_appendDecimalTo_8d9f2 171 = .ok (.invokeinterface 62 2, 5) := by decide +kernel
theorem dJx40b00_appendDecimalTo_8d9f2_176 : decode cJx40b00_appendDecimalTo_8d9f2 176 = .ok (.areturn, 1) := by decide +kernel
theorem dJx40b00_appendDecimalTo_8d9f2_177 : decode cJx40b00_appendDecimalTo_8d9f2 177 = .ok (.aload_n 2, 1) := by decide +kernel
theorem dJx40b00_appendDecimalTo_8d9f2_178 : decode cJx40b00_appendDecimalTo_8d9f2 178 = .ok (.ldc 36, 2) := by decide +kernel
theorem dJx40b00_appendDecimalTo_8d9f2_180 : decode cJx40b00_appendDecimalTo_8d9f2 180 = .ok (.invokeinterface 62 2, 5) := by decide +kernel
theorem dJx40b00_appendDecimalTo_8d9f2_185 : decode cJx40b00_appendDecimalTo_8d9f2 185 = .ok (.areturn, 1) := by decide +kernel
theorem dJx40b00_appendDecimalTo_8d9f2_186 : decode cJx40b00_appendDecimalTo_8d9f2 186 = .ok (.aload_n 2, 1) := by decide +kernel
theorem dJx40b00_appendDecimalTo_8d9f2_187 : decode cJx40b00_appendDecimalTo_8d9f2 187 = .ok (.ldc 38, 2) := by decide +kernel
theorem dJx40b00_appendDecimalTo_8d9f2_189 : decode cJx40b00_appendDecimalTo_8d9f2 189 = .ok (.invokeinterface 62 2, 5) := by decide +kernel
theorem dJx40b00_appendDecimalTo_8d9f2_194 : decode cJx40b00_appendDecimalTo_8d9f2 194 = .ok (.areturn, 1) := by decide +kernel
theorem dJx40b00_appendDecimalTo_8d9f2_195 : decode cJx40b00_appendDecimalTo_8d9f2 195 = .ok (.aload_n 2, 1) := by decide +kernel
theorem dJx40b00_appendDecimalTo_8d9f2_196 : decode cJx40b00_appendDecimalTo_8d9f2 196 = .ok (.ldc 40, 2) := by decide +kernel
theorem dJx40b00_appendDecimalTo_8d9f2_198 : decode cJx40b00_appendDecimalTo_8d9f2 198 = .ok (.invokeinterface 62 2, 5) := by decide +kernel
theorem dJx40b00_appendDecimalTo_8d9f2_203 : decode cJx40b00_appendDecimalTo_8d9f2 203 = .ok (.areturn, 1) := by decide +kernel
theorem dJx40b00_toDecimal_5c35a_0 : decode cJx40b00_toDecimal_5c35a 0 = .ok (.fload_n 1, 1) := by decide +kernel
theorem dJx40b00_toDecimal_5c35a_1 : decode cJx40b00_toDecimal_5c35a 1 = .ok (.invokestatic 65, 3) := by decide +kernel
theorem dJx40b00_toDecimal_5c35a_4 : decode cJx40b00_toDecimal_5c35a 4 = .ok (.istore_n 2, 1) := by decide +kernel
theorem dJx40b00_toDecimal_5c35a_5 : decode cJx40b00_toDecimal_5c35a 5 = .ok (.iload_n 2, 1) := by decide +kernel
theorem dJx40b00_toDecimal_5c35a_6 : decode cJx40b00_toDecimal_5c35a 6 = .ok (.ldc 68, 2) := by decide +kernel
theorem dJx40b00_toDecimal_5c35a_8 : decode cJx40b00_toDecimal_5c35a 8 = .ok (.iand, 1) := by decide +kernel
theorem dJx40b00_toDecimal_5c35a_9 : decode cJx40b00_toDecimal_5c35a 9 = .ok (.istore_n 3, 1) := by decide +kernel
theorem dJx40b00_toDecimal_5c35a_10 : decode cJx40b00_toDecimal_5c35a 10 = .ok (.iload_n 2, 1) := by decide +kernel
theorem dJx40b00_toDecimal_5c35a_11 : decode cJx40b00_toDecimal_5c35a 11 = .ok (.bipush 23, 2) := by decide +kernel
theorem dJx40b00_toDecimal_5c35a_13 : decode cJx40b00_toDecimal_5c35a 13 = .ok (.iushr, 1) := by decide +kernel
theorem dJx40b00_toDecimal_5c35a_14 : decode cJx40b00_toDecimal_5c35a 14 = .ok (.sipush 255, 3) := by decide +kernel
theorem dJx40b00_toDecimal_5c35a_17 : decode cJx40b00_toDecimal_5c35a 17 = .ok (.iand, 1) := by decide +kernel
theorem dJx40b00_toDecimal_5c35a_18 : decode cJx40b00_toDecimal_5c35a 18 = .ok (.istore 4, 2) := by decide +kernel
theorem dJx40b00_toDecimal_5c35a_20 : decode cJx40b00_toDecimal_5c35a 20 = .ok (.iload 4, 2) := by decide +kernel
theorem dJx40b00_toDecimal_5c35a_22 : decode cJx40b00_toDecimal_5c35a 22 = .ok (.sipush 255, 3) := by decide +kernel
theorem dJx40b00_toDecimal_5c35a_25 : decode cJx40b00_toDecimal_5c35a 25 = .ok (.if_icmp .ge 145, 3) := by decide +kernel
theorem dJx40b00_toDecimal_5c35a_28 : decode cJx40b00_toDecimal_5c35a 28 = .ok (.aload_n 0, 1) := by decide +kernel
theorem dJx40b00_toDecimal_5c35a_29 : decode cJx40b00_toDecimal_5c35a 29 = .ok (.iconst (-1), 1) := by decide +kernel
theorem dJx40b00_toDecimal_5c35a_30 : decode cJx40b00_toDecimal_5c35a 30 = .ok (.putfield 42, 3) := by decide +kernel
theorem dJx40b00_toDecimal_5c35a_33 : decode cJx40b00_toDecimal_5c35a 33 = .ok (.iload_n 2, 1) := by decide +kernel
theorem dJx40b00_toDecimal_5c35a_34 : decode cJx40b00_toDecimal_5c35a 34 = .ok (.ifCond .ge 9, 3) := by decide +kernel
theorem dJx40b00_toDecimal_5c35a_37 : decode cJx40b00_toDecimal_5c35a 37 = .ok (.aload_n 0, 1) := by decide +kernel
theorem dJx40b00_toDecimal_5c35a_38 : decode cJx40b00_toDecimal_5c35a 38 = .ok (.bipush 45, 2) := by decide +kernel
theorem dJx40b00_toDecimal_5c35a_40 : decode cJx40b00_toDecimal_5c35a 40 = .ok (.invokevirtual 69, 3) := by decide +kernel
theorem dJx40b00_toDecimal_5c35a_43 : decode cJx40b00_toDecimal_5c35a 43 = .ok (.iload 4, 2) := by decide +kernel
theorem dJx40b00_toDecimal_5c35a_45 : decode cJx40b00_toDecimal_5c35a 45 = .ok (.ifCond .eq 80, 3) := by decide +kernel
theorem dJx40b00_toDecimal_5c35a_48 : decode cJx40b00_toDecimal_5c35a 48 = .ok (.sipush 150, 3) := by decide +kernel
theorem dJx40b00_toDecimal_5c35a_51 : decode cJx40b00_toDecimal_5c35a 51 = .ok (.iload 4, 2) := by decide +kernel
theorem dJx40b00_toDecimal_5c35a_53 : decode cJx40b00_toDecimal_5c35a 53 = .ok (.isub, 1) := by decide +kernel
theorem dJx40b00_toDecimal_5c35a_54 : decode cJx40b00_toDecimal_5c35a 54 = .ok (.istore 5, 2) := by decide +kernel
theorem dJx40b00_toDecimal_5c35a_56 : decode cJx40b00_toDecimal_5c35a 56 = .ok (.ldc 72, 2) := by decide +kernel
theorem dJx40b00_toDecimal_5c35a_58 : decode cJx40b00_toDecimal_5c35a 58 = .ok (.iload_n 3, 1) := by decide +kernel
theorem dJx40b00_toDecimal_5c35a_59 : decode cJx40b00_toDecimal_5c35a 59 = .ok (.ior, 1) := by decide +kernel
theorem dJx40b00_toDecimal_5c35a_60 : decode cJx40b00_toDecimal_5c35a 60 = .ok (.istore 6, 2) := by decide +kernel
theorem dJx40b00_toDecimal_5c35a_62 : decode cJx40b00_toDecimal_5c35a 62 = .ok (.iconst 0, 1) := by decide +kernel
theorem dJx40b00_toDecimal_5c35a_63 : decode cJx40b00_toDecimal_5c35a 63 = .ok (.iload 5, 2) := by decide +kernel
theorem dJx40b00_toDecimal_5c35a_65 : decode cJx40b00_toDecimal_5c35a 65 = .ok (.if_icmp .ge 7, 3) := by decide +kernel
theorem dJx40b00_toDecimal_5c35a_68 : decode cJx40b00_toDecimal_5c35a 68 = .ok (.iconst 1, 1) := by decide +kernel
theorem dJx40b00_toDecimal_5c35a_69 : decode cJx40b00_toDecimal_5c35a 69 = .ok (.goto 4, 3) := by decide +kernel
theorem dJx40b00_toDecimal_5c35a_72 : decode cJx40b00_toDecimal_5c35a 72 = .ok (.iconst 0, 1) := by decide +kernel
theorem dJx40b00_toDecimal_5c35a_73 : decode cJx40b00_toDecimal_5c35a 73 = .ok (.iload 5, 2) := by decide +kernel
theorem dJx40b00_toDecimal_5c35a_75 : decode cJx40b00_toDecimal_5c35a 75 = .ok (.bipush 24, 2) := by decide +kernel
theorem dJx40b00_toDecimal_5c35a_77 : decode cJx40b00_toDecimal_5c35a 77 = .ok (.if_icmp .ge 7, 3) := by decide +kernel
theorem dJx40b00_toDecimal_5c35a_80 : decode cJx40b00_toDecimal_5c35a 80 = .ok (.iconst 1, 1) := by decide +kernel
theorem dJx40b00_toDecimal_5c35a_81 : decode cJx40b00_toDecimal_5c35a 81 = .ok (.goto 4, 3) := by decide +kernel
theorem dJx40b00_toDecimal_5c35a_84 : decode cJx40b00_toDecimal_5c35a 84 = .ok (.iconst 0, 1) := by decide +kernel
theorem dJx40b00_toDecimal_5c35a_85 : decode cJx40b00_toDecimal_5c35a 85 = .ok (.iand, 1) := by decide +kernel
theorem dJx40b00_toDecimal_5c35a_86 : decode cJx40b00_toDecimal_5c35a 86 = .ok (.ifCond .eq 28, 3) := by decide +kernel
theorem dJx40b00_toDecimal_5c35a_89 : decode cJx40b00_toDecimal_5c35a 89 = .ok (.iload 6, 2) := by decide +kernel
theorem dJx40b00_toDecimal_5c35a_91 : decode cJx40b00_toDecimal_5c35a 91 = .ok (.iload 5, 2) := by decide +kernel
theorem dJx40b00_toDecimal_5c35a_93 : decode cJx40b00_toDecimal_5c35a 93 = .ok (.ishr, 1) := by decide +kernel
theorem dJx40b00_toDecimal_5c35a_94 : decode cJx40b00_toDecimal_5c35a 94 = .ok (.istore 7, 2) := by decide +kernel
theorem dJx40b00_toDecimal_5c35a_96 : decode cJx40b00_toDecimal_5c35a 96 = .ok (.iload 7, 2) := by decide +kernel
theorem dJx40b00_toDecimal_5c35a_98 : decode cJx40b00_toDecimal_5c35a 98 = .ok (.iload 5, 2) := by decide +kernel
theorem dJx40b00_toDecimal_5c35a_100 : decode cJx40b00_toDecimal_5c35a 100 = .ok (.ishl, 1) := by decide +kernel
theorem dJx40b00_toDecimal_5c35a_101 : decode cJx40b00_toDecimal_5c35a 101 = .ok (.iload 6, 2) := by decide +kernel
theorem dJx40b00_toDecimal_5c35a_103 : decode cJx40b00_toDecimal_5c35a 103 = .ok (.if_icmp .ne 11, 3) := by decide +kernel
theorem dJx40b00_toDecimal_5c35a_106 : decode cJx40b00_toDecimal_5c35a 106 = .ok (.aload_n 0, 1) := by decide +kernel
theorem dJx40b00_toDecimal_5c35a_107 : decode cJx40b00_toDecimal_5c35a 107 = .ok (.iload 7, 2) := by decide +kernel
theorem dJx40b00_toDecimal_5c35a_109 : decode cJx40b00_toDecimal_5c35a 109 = .ok (.iconst 0, 1) := by decide +kernel
theorem dJx40b00_toDecimal_5c35a_110 : decode cJx40b00_toDecimal_5c35a 110 = .ok (.invokevirtual 73, 3) := by decide +kernel
theorem dJx40b00_toDecimal_5c35a_113 : decode cJx40b00_toDecimal_5c35a 113 = .ok (.ireturn, 1) := by decide +kernel
theorem dJx40b00_toDecimal_5c35a_114 : decode cJx40b00_toDecimal_5c35a 114 = .ok (.aload_n 0, 1) := by decide +kernel
theorem dJx40b00_toDecimal_5c35a_115 : decode cJx40b00_toDecimal_5c35a 115 = .ok (.iload 5, 2) := by decide +kernel
theorem dJx40b00_toDecimal_5c35a_117 : decode cJx40b00_toDecimal_5c35a 117 = .ok (.ineg, 1) := by decide +kernel
theorem dJx40b00_toDecimal_5c35a_118 : decode cJx40b00_toDecimal_5c35a 118 = .ok (.iload 6, 2) := by decide +kernel
theorem dJx40b00_toDecimal_5c35a_120 : decode cJx40b00_toDecimal_5c35a 120 = .ok (.iconst 0, 1) := by decide +kernel
theorem dJx40b00_toDecimal_5c35a_121 : decode cJx40b00_toDecimal_5c35a 121 = .ok (.invokevirtual 77, 3) := by decide +kernel
theorem dJx40b00_toDecimal_5c35a_124 : decode cJx40b00_toDecimal_5c35a 124 = .ok (.ireturn, 1) := by decide +kernel
theorem dJx40b00_toDecimal_5c35a_125 : decode cJx40b00_toDecimal_5c35a 125 = .ok (.iload_n 3, 1) := by decide +kernel
theorem dJx40b00_toDecimal_5c35a_126 : decode cJx40b00_toDecimal_5c35a 126 = .ok (.ifCond .eq 34, 3) := by decide +kernel
theorem dJx40b00_toDecimal_5c35a_129 : decode cJx40b00_toDecimal_5c35a 129 = .ok (.iload_n 3, 1) := by decide +kernel
theorem dJx40b00_toDecimal_5c35a_130 : decode cJx40b00_toDecimal_5c35a 130 = .ok (.bipush 8, 2) := by decide +kernel
theorem dJx40b00_toDecimal_5c35a_132 : decode cJx40b00_toDecimal_5c35a 132 = .ok (.if_icmp .ge 18, 3) := by decide +kernel
theorem dJx40b00_toDecimal_5c35a_135 : decode cJx40b00_toDecimal_5c35a 135 = .ok (.aload_n 0, 1) := by decide +kernel
theorem dJx40b00_toDecimal_5c35a_136 : decode cJx40b00_toDecimal_5c35a 136 = .ok (.sipush (-149), 3) := by decide +kernel
theorem dJx40b00_toDecimal_5c35a_139 : decode cJx40b00_toDecimal_5c35a 139 = .ok (.bipush 10, 2) := by decide +kernel
theorem dJx40b00_toDecimal_5c35a_141 : decode cJx40b00_toDecimal_5c35a 141 = .ok (.iload_n 3, 1) := by decide +kernel
theorem dJx40b00_toDecimal_5c35a_142 : decode cJx40b00_toDecimal_5c35a 142 = .ok (.imul, 1) := by decide +kernel
theorem dJx40b00_toDecimal_5c35a_143 : decode cJx40b00_toDecimal_5c35a 143 = .ok (.iconst (-1), 1) := by decide +kernel
theorem dJx40b00_toDecimal_5c35a_144 : decode cJx40b00_toDecimal_5c35a 144 = .ok (.invokevirtual 77, 3) := by decide +kernel
theorem dJx40b00_toDecimal_5c35a_147 : decode cJx40b00_toDecimal_5c35a 147 = .ok (.goto 12, 3) := by decide +kernel
theorem dJx40b00_toDecimal_5c35a_150 : decode cJx40b00_toDecimal_5c35a 150 = .ok (.aload_n 0, 1) := by decide +kernel
theorem dJx40b00_toDecimal_5c35a_151 : decode cJx40b00_toDecimal_5c35a 151 = .ok (.sipush (-149), 3) := by decide +kernel
theorem dJx40b00_toDecimal_5c35a_154 : decode cJx40b00_toDecimal_5c35a 154 = .ok (.iload_n 3, 1) := by decide +kernel
theorem dJx40b00_toDecimal_5c35a_155 : decode cJx40b00_toDecimal_5c35a 155 = .ok (.iconst 0, 1) := by decide +kernel
theorem dJx40b00_toDecimal_5c35a_156 : decode cJx40b00_toDecimal_5c35a 156 = .ok (.invokevirtual 77, 3) := by decide +kernel
theorem dJx40b00_toDecimal_5c35a_159 : decode cJx40b00_toDecimal_5c35a 159 = .ok (.ireturn, 1) := by decide +kernel
theorem dJx40b00_toDecimal_5c35a_160 : decode cJx40b00_toDecimal_5c35a 160 = .ok (.iload_n 2, 1) := by decide +kernel
theorem dJx40b00_toDecimal_5c35a_161 : decode cJx40b00_toDecimal_5c35a 161 = .ok (.ifCond .ne 7, 3) := by decide +kernel
theorem dJx40b00_toDecimal_5c35a_164 : decode cJx40b00_toDecimal_5c35a 164 = .ok (.iconst 1, 1) := by decide +kernel
theorem dJx40b00_toDecimal_5c35a_165 : decode cJx40b00_toDecimal_5c35a 165 = .ok (.goto 4, 3) := by decide +kernel
theorem dJx40b00_toDecimal_5c35a_168 : decode cJx40b00_toDecimal_5c35a 168 = .ok (.iconst 2, 1) := by decide +kernel
theorem dJx40b00_toDecimal_5c35a_169 : decode cJx40b00_toDecimal_5c35a 169 = .ok (.ireturn, 1) := by decide +kernel
theorem dJx40b00_toDecimal_5c35a_170 : decode cJx40b00_toDecimal_5c35a 170 = .ok (.iload_n 3, 1) := by decide +kernel
theorem dJx40b00_toDecimal_5c35a_171 : decode cJx40b00_toDecimal_5c35a 171 = .ok (.ifCond .eq 5, 3) := by decide +kernel
theorem dJx40b00_toDecimal_5c35a_174 : decode cJx40b00_toDecimal_5c35a 174 = .ok (.iconst 5, 1) := by decide +kernel
theorem dJx40b00_toDecimal_5c35a_175 : decode cJx40b00_toDecimal_5c35a 175 = .ok (.ireturn, 1) := by decide +kernel
theorem dJx40b00_toDecimal_5c35a_176 : decode cJx40b00_toDecimal_5c35a 176 = .ok (.iload_n 2, 1) := by decide +kernel
theorem dJx40b00_toDecimal_5c35a_177 : decode cJx40b00_toDecimal_5c35a 177 = .ok (.ifCond .le 7, 3) := by decide +kernel
theorem dJx40b00_toDecimal_5c35a_180 : decode cJx40b00_toDecimal_5c35a 180 = .ok (.iconst 3, 1) := by decide +kernel
theorem dJx40b00_toDecimal_5c35a_181 : decode cJx40b00_toDecimal_5c35a 181 = .ok (.goto 4, 3) := by decide +kernel
theorem dJx40b00_toDecimal_5c35a_184 : decode cJx40b00_toDecimal_5c35a 184 = .ok (.iconst 4, 1) := by decide +kernel
theorem dJx40b00_toDecimal_5c35a_185 : decode cJx40b00_toDecimal_5c35a 185 = .ok (.ireturn, 1) := by decide +kernel
theorem dJx40b00_toDecimal_cabcc_0 : decode cJx40b00_toDecimal_cabcc 0 = .ok (.iload_n 2, 1) := by decide +kernel
theorem dJx40b00_toDecimal_cabcc_1 : decode cJx40b00_toDecimal_cabcc 1 = .ok (.iconst 1, 1) := by decide +kernel
theorem dJx40b00_toDecimal_cabcc_2 : decode cJx40b00_toDecimal_cabcc 2 = .ok (.iand, 1) := by decide +kernel
theorem dJx40b00_toDecimal_cabcc_3 : decode cJx40b00_toDecimal_cabcc 3 = .ok (.istore 4, 2) := by decide +kernel
theorem dJx40b00_toDecimal_cabcc_5 : decode cJx40b00_toDecimal_cabcc 5 = .ok (.iload_n 2, 1) := by decide +kernel
theorem dJx40b00_toDecimal_cabcc_6 : decode cJx40b00_toDecimal_cabcc 6 = .ok (.iconst 2, 1) := by decide +kernel
theorem dJx40b00_toDecimal_cabcc_7 : decode cJx40b00_toDecimal_cabcc 7 = .ok (.ishl, 1) := by decide +kernel
theorem dJx40b00_toDecimal_cabcc_8 : decode cJx40b00_toDecimal_cabcc 8 = .ok (.i2l, 1) := by decide +kernel
theorem dJx40b00_toDecimal_cabcc_9 : decode cJx40b00_toDecimal_cabcc 9 = .ok (.lstore 5, 2) := by decide +kernel
theorem dJx40b00_toDecimal_cabcc_11 : decode cJx40b00_toDecimal_cabcc 11 = .ok (.lload 5, 2) := by decide +kernel
theorem dJx40b00_toDecimal_cabcc_13 : decode cJx40b00_toDecimal_cabcc 13 = .ok (.ldc2_w 80, 3) := by decide +kernel
theorem dJx40b00_toDecimal_cabcc_16 : decode cJx40b00_toDecimal_cabcc 16 = .ok (.ladd, 1) := by decide +kernel
theorem dJx40b00_toDecimal_cabcc_17 : decode cJx40b00_toDecimal_cabcc 17 = .ok (.lstore 7, 2) := by decide +kernel
theorem dJx40b00_toDecimal_cabcc_19 : decode cJx40b00_toDecimal_cabcc 19 = .ok (.iload_n 2, 1) := by decide +kernel
theorem dJx40b00_toDecimal_cabcc_20 : decode cJx40b00_toDecimal_cabcc 20 = .ok (.ldc 72, 2) := by decide +kernel
theorem dJx40b00_toDecimal_cabcc_22 : decode cJx40b00_toDecimal_cabcc 22 = .ok (.if_icmp .eq 7, 3) := by decide +kernel
theorem dJx40b00_toDecimal_cabcc_25 : decode cJx40b00_toDecimal_cabcc 25 = .ok (.iconst 1, 1) := by decide +kernel
theorem dJx40b00_toDecimal_cabcc_26 : decode cJx40b00_toDecimal_cabcc 26 = .ok (.goto 4, 3) := by decide +kernel
theorem dJx40b00_toDecimal_cabcc_29 : decode cJx40b00_toDecimal_cabcc 29 = .ok (.iconst 0, 1) := by decide +kernel
theorem dJx40b00_toDecimal_cabcc_30 : decode cJx40b00_toDecimal_cabcc 30 = .ok (.iload_n 1, 1) := by decide +kernel
theorem dJx40b00_toDecimal_cabcc_31 : decode cJx40b00_toDecimal_cabcc 31 = .ok (.sipush (-149), 3) := by decide +kernel
theorem dJx40b00_toDecimal_cabcc_34 : decode cJx40b00_toDecimal_cabcc 34 = .ok (.if_icmp .ne 7, 3) := by decide +kernel
theorem dJx40b00_toDecimal_cabcc_37 : decode cJx40b00_toDecimal_cabcc 37 = .ok (.iconst 1, 1) := by decide +kernel
theorem dJx40b00_toDecimal_cabcc_38 : decode cJx40b00_toDecimal_cabcc 38 = .ok (.goto 4, 3) := by decide +kernel
theorem dJx40b00_toDecimal_cabcc_41 : decode cJx40b00_toDecimal_cabcc 41 = .ok (.iconst 0, 1) := by decide +kernel
theorem dJx40b00_toDecimal_cabcc_42 : decode cJx40b00_toDecimal_cabcc 42 = .ok (.ior, 1) := by decide +kernel
theorem dJx40b00_toDecimal_cabcc_43 : decode cJx40b00_toDecimal_cabcc 43 = .ok (.ifCond .eq 20, 3) := by decide +kernel
theorem dJx40b00_toDecimal_cabcc_46 : decode cJx40b00_toDecimal_cabcc 46 = .ok (.lload 5, 2) := by decide +kernel
theorem dJx40b00_toDecimal_cabcc_48 : decode cJx40b00_toDecimal_cabcc 48 = .ok (.ldc2_w 80, 3) := by decide +kernel
theorem dJx40b00_toDecimal_cabcc_51 : decode cJx40b00_toDecimal_cabcc 51 = .ok (.lsub, 1) := by decide +kernel
theorem dJx40b00_toDecimal_cabcc_52 : decode cJx40b00_toDecimal_cabcc 52 = .ok (.lstore 9, 2) := by decide +kernel
theorem dJx40b00_toDecimal_cabcc_54 : decode cJx40b00_toDecimal_cabcc 54 = .ok (.iload_n 1, 1) := by decide +kernel
theorem dJx40b00_toDecimal_cabcc_55 : decode cJx40b00_toDecimal_cabcc 55 = .ok (.invokestatic 82, 3) := by decide +kernel
theorem dJx40b00_toDecimal_cabcc_58 : decode cJx40b00_toDecimal_cabcc 58 = .ok (.istore 11, 2) := by decide +kernel
theorem dJx40b00_toDecimal_cabcc_60 : decode cJx40b00_toDecimal_cabcc 60 = .ok (.goto 15, 3) := by decide +kernel
theorem dJx40b00_toDecimal_cabcc_63 : decode cJx40b00_toDecimal_cabcc 63 = .ok (.lload 5, 2) := by decide +kernel
theorem dJx40b00_toDecimal_cabcc_65 : decode cJx40b00_toDecimal_cabcc 65 = .ok (.lconst 1, 1) := by decide +kernel
theorem dJx40b00_toDecimal_cabcc_66 : decode cJx40b00_toDecimal_cabcc 66 = .ok (.lsub, 1) := by decide +kernel
theorem dJx40b00_toDecimal_cabcc_67 : decode cJx40b00_toDecimal_cabcc 67 = .ok (.lstore 9, 2) := by decide +kernel
theorem dJx40b00_toDecimal_cabcc_69 : decode cJx40b00_toDecimal_cabcc 69 = .ok (.iload_n 1, 1) := by decide +kernel
theorem dJx40b00_toDecimal_cabcc_70 : decode cJx40b00_toDecimal_cabcc 70 = .ok (.invokestatic 88, 3) := by decide +kernel
theorem dJx40b00_toDecimal_cabcc_73 : decode cJx40b00_toDecimal_cabcc 73 = .ok (.istore 11, 2) := by decide +kernel
theorem dJx40b00_toDecimal_cabcc_75 : decode cJx40b00_toDecimal_cabcc 75 = .ok (.iload_n 1, 1) := by decide +kernel
theorem dJx40b00_toDecimal_cabcc_76 : decode cJx40b00_toDecimal_cabcc 76 = .ok (.iload 11, 2) := by decide +kernel
theorem dJx40b00_toDecimal_cabcc_78 : decode cJx40b00_toDecimal_cabcc 78 = .ok (.ineg, 1) := by decide +kernel
theorem dJx40b00_toDecimal_cabcc_79 : decode cJx40b00_toDecimal_cabcc 79 = .ok (.invokestatic 91, 3) := by decide +kernel
theorem dJx40b00_toDecimal_cabcc_82 : decode cJx40b00_toDecimal_cabcc 82 = .ok (.iadd, 1) := by decide +kernel
theorem dJx40b00_toDecimal_cabcc_83 : decode cJx40b00_toDecimal_cabcc 83 = .ok (.bipush 33, 2) := by decide +kernel
theorem dJx40b00_toDecimal_cabcc_85 : decode cJx40b00_toDecimal_cabcc 85 = .ok (.iadd, 1) := by decide +kernel
theorem dJx40b00_toDecimal_cabcc_86 : decode cJx40b00_toDecimal_cabcc 86 = .ok (.istore 12, 2) := by decide +kernel
theorem dJx40b00_toDecimal_cabcc_88 : decode cJx40b00_toDecimal_cabcc 88 = .ok (.iload 11, 2) := by decide +kernel
theorem dJx40b00_toDecimal_cabcc_90 : decode cJx40b00_toDecimal_cabcc 90 = .ok (.invokestatic 94, 3) := by decide +kernel
theorem dJx40b00_toDecimal_cabcc_93 : decode cJx40b00_toDecimal_cabcc 93 = .ok (.lconst 1, 1) := by decide +kernel
theorem dJx40b00_toDecimal_cabcc_94 : decode cJx40b00_toDecimal_cabcc 94 = .ok (.ladd, 1) := by decide +kernel
theorem dJx40b00_toDecimal_cabcc_95 : decode cJx40b00_toDecimal_cabcc 95 = .ok (.lstore 13, 2) := by decide +kernel
theorem dJx40b00_toDecimal_cabcc_97 : decode cJx40b00_toDecimal_cabcc 97 = .ok (.lload 13, 2) := by decide +kernel
theorem dJx40b00_toDecimal_cabcc_99 : decode cJx40b00_toDecimal_cabcc 99 = .ok (.lload 5, 2) := by decide +kernel
theorem dJx40b00_toDecimal_cabcc_101 : decode cJx40b00_toDecimal_cabcc 101 = .ok (.iload 12, 2) := by decide +kernel
theorem dJx40b00_toDecimal_cabcc_103 : decode cJx40b00_toDecimal_cabcc 103 = .ok (.lshl, 1) := by decide +kernel
theorem dJx40b00_toDecimal_cabcc_104 : decode cJx40b00_toDecimal_cabcc 104 = .ok (.invokestatic 98, 3) := by decide +kernel
theorem dJx40b00_toDecimal_cabcc_107 : decode cJx40b00_toDecimal_cabcc 107 = .ok (.istore 15, 2) := by decide +kernel
theorem dJx40b00_toDecimal_cabcc_109 : decode cJx40b00_toDecimal_cabcc 109 = .ok (.lload 13, 2) := by decide +kernel
theorem dJx40b00_toDecimal_cabcc_111 : decode cJx40b00_toDecimal_cabcc 111 = .ok (.lload 9, 2) := by decide +kernel
theorem dJx40b00_toDecimal_cabcc_113 : decode cJx40b00_toDecimal_cabcc 113 = .ok (.iload 12, 2) := by decide +kernel
theorem dJx40b00_toDecimal_cabcc_115 : decode cJx40b00_toDecimal_cabcc 115 = .ok (.lshl, 1) := by decide +kernel
theorem dJx40b00_toDecimal_cabcc_116 : decode cJx40b00_toDecimal_cabcc 116 = .ok (.invokestatic 98, 3) := by decide +kernel
theorem dJx40b00_toDecimal_cabcc_119 : decode cJx40b00_toDecimal_cabcc 119 = .ok (.istore 16, 2) := by decide +kernel
theorem dJx40b00_toDecimal_cabcc_121 : decode cJx40b00_toDecimal_cabcc 121 = .ok (.lload 13, 2) := by decide +kernel
theorem dJx40b00_toDecimal_cabcc_123 : decode cJx40b00_toDecimal_cabcc 123 = .ok (.lload 7, 2) := by decide +kernel
theorem dJx40b00_toDecimal_cabcc_125 : decode cJx40b00_toDecimal_cabcc 125 = .ok (.iload 12, 2) := by decide +kernel
theorem dJx40b00_toDecimal_cabcc_127 : decode cJx40b00_toDecimal_cabcc 127 = .ok (.lshl, 1) := by decide +kernel
theorem dJx40b00_toDecimal_cabcc_128 : decode cJx40b00_toDecimal_cabcc 128 = .ok (.invokestatic 98, 3) := by decide +kernel
theorem dJx40b00_toDecimal_cabcc_131 : decode cJx40b00_toDecimal_cabcc 131 = .ok (.istore 17, 2) := by decide +kernel
theorem dJx40b00_toDecimal_cabcc_133 : decode cJx40b00_toDecimal_cabcc 133 = .ok (.iload 15, 2) := by decide +kernel
theorem dJx40b00_toDecimal_cabcc_135 : decode cJx40b00_toDecimal_cabcc 135 = .ok (.iconst 2, 1) := by decide +kernel
theorem dJx40b00_toDecimal_cabcc_136 : decode cJx40b00_toDecimal_cabcc 136 = .ok (.ishr, 1) := by decide +kernel
theorem dJx40b00_toDecimal_cabcc_137 : decode cJx40b00_toDecimal_cabcc 137 = .ok (.istore 18, 2) := by decide +kernel
theorem dJx40b00_toDecimal_cabcc_139 : decode cJx40b00_toDecimal_cabcc 139 = .ok (.iload 18, 2) := by decide +kernel
theorem dJx40b00_toDecimal_cabcc_141 : decode cJx40b00_toDecimal_cabcc 141 = .ok (.bipush 100, 2) := by decide +kernel
theorem dJx40b00_toDecimal_cabcc_143 : decode cJx40b00_toDecimal_cabcc 143 = .ok (.if_icmp .lt 90, 3) := by decide +kernel
theorem dJx40b00_toDecimal_cabcc_146 : decode cJx40b00_toDecimal_cabcc 146 = .ok (.bipush 10, 2) := by decide +kernel
theorem dJx40b00_toDecimal_cabcc_148 : decode cJx40b00_toDecimal_cabcc 148 = .ok (.iload 18, 2) := by decide +kernel
theorem dJx40b00_toDecimal_cabcc_150 : decode cJx40b00_toDecimal_cabcc 150 = .ok (.i2l, 1) := by decide +kernel
theorem dJx40b00_toDecimal_cabcc_151 : decode cJx40b00_toDecimal_cabcc 151 = .ok (.ldc2_w 102, 3) := by decide +kernel
theorem dJx40b00_toDecimal_cabcc_154 : decode cJx40b00_toDecimal_cabcc 154 = .ok (.lmul, 1) := by decide +kernel
theorem dJx40b00_toDecimal_cabcc_155 : decode cJx40b00_toDecimal_cabcc 155 = .ok (.bipush 34, 2) := by decide +kernel
theorem dJx40b00_toDecimal_cabcc_157 : decode cJx40b00_toDecimal_cabcc 157 = .ok (.lushr, 1) := by decide +kernel
theorem dJx40b00_toDecimal_cabcc_158 : decode cJx40b00_toDecimal_cabcc 158 = .ok (.l2i, 1) := by decide +kernel
theorem dJx40b00_toDecimal_cabcc_159 : decode cJx40b00_toDecimal_cabcc 159 = .ok (.imul, 1) := by decide +kernel
theorem dJx40b00_toDecimal_cabcc_160 : decode cJx40b00_toDecimal_cabcc 160 = .ok (.istore 19, 2) := by decide +kernel
theorem dJx40b00_toDecimal_cabcc_162 : decode cJx40b00_toDecimal_cabcc 162 = .ok (.iload 19, 2) := by decide +kernel
theorem dJx40b00_toDecimal_cabcc_164 : decode cJx40b00_toDecimal_cabcc 164 = .ok (.bipush 10, 2) := by decide +kernel
theorem dJx40b00_toDecimal_cabcc_166 : decode cJx40b00_toDecimal_cabcc 166 = .ok (.iadd, 1) := by decide +kernel
theorem dJx40b00_toDecimal_cabcc_167 : decode cJx40b00_toDecimal_cabcc 167 = .ok (.istore 20, 2) := by decide +kernel
theorem dJx40b00_toDecimal_cabcc_169 : decode cJx40b00_toDecimal_cabcc 169 = .ok (.iload 16, 2) := by decide +kernel
theorem dJx40b00_toDecimal_cabcc_171 : decode cJx40b00_toDecimal_cabcc 171 = .ok (.iload 4, 2) := by decide +kernel
theorem dJx40b00_toDecimal_cabcc_173 : decode cJx40b00_toDecimal_cabcc 173 = .ok (.iadd, 1) := by decide +kernel
theorem dJx40b00_toDecimal_cabcc_174 : decode cJx40b00_toDecimal_cabcc 174 = .ok (.iload 19, 2) := by decide +kernel
theorem dJx40b00_toDecimal_cabcc_176 : decode cJx40b00_toDecimal_cabcc 176 = .ok (.iconst 2, 1) := by decide +kernel
theorem dJx40b00_toDecimal_cabcc_177 : decode cJx40b00_toDecimal_cabcc 177 = .ok (.ishl, 1) := by decide +kernel
theorem dJx40b00_toDecimal_cabcc_178 : decode cJx40b00_toDecimal_cabcc 178 = .ok (.if_icmp .gt 7, 3) := by decide +kernel
theorem dJx40b00_toDecimal_cabcc_181 : decode cJx40b00_toDecimal_cabcc 181 = .ok (.iconst 1, 1) := by decide +kernel
theorem dJx40b00_toDecimal_cabcc_182 : decode cJx40b00_toDecimal_cabcc 182 = .ok (.goto 4, 3) := by decide +kernel
theorem dJx40b00_toDecimal_cabcc_185 : decode cJx40b00_toDecimal_cabcc 185 = .ok (.iconst 0, 1) := by decide +kernel
theorem dJx40b00_toDecimal_cabcc_186 : decode cJx40b00_toDecimal_cabcc 186 = .ok (.istore 21, 2) := by decide +kernel
theorem dJx40b00_toDecimal_cabcc_188 : decode cJx40b00_toDecimal_cabcc 188 = .ok (.iload 20, 2) := by decide +kernel
theorem dJx40b00_toDecimal_cabcc_190 : decode cJx40b00_toDecimal_cabcc 190 = .ok (.iconst 2, 1) := by decide +kernel
theorem dJx40b00_toDecimal_cabcc_191 : decode cJx40b00_toDecimal_cabcc 191 = .ok (.ishl, 1) := by decide +kernel
theorem dJx40b00_toDecimal_cabcc_192 : decode cJx40b00_toDecimal_cabcc 192 = .ok (.iload 4, 2) := by decide +kernel
theorem dJx40b00_toDecimal_cabcc_194 : decode cJx40b00_toDecimal_cabcc 194 = .ok (.iadd, 1) := by decide +kernel
theorem dJx40b00_toDecimal_cabcc_195 : decode cJx40b00_toDecimal_cabcc 195 = .ok (.iload 17, 2) := by decide +kernel
theorem dJx40b00_toDecimal_cabcc_197 : decode cJx40b00_toDecimal_cabcc 197 = .ok (.if_icmp .gt 7, 3) := by decide +kernel
theorem dJx40b00_toDecimal_cabcc_200 : decode cJx40b00_toDecimal_cabcc 200 = .ok (.iconst 1, 1) := by decide +kernel
theorem dJx40b00_toDecimal_cabcc_201 : decode cJx40b00_toDecimal_cabcc 201 = .ok (.goto 4, 3) := by decide +kernel
theorem dJx40b00_toDecimal_cabcc_204 : decode cJx40b00_toDecimal_cabcc 204 = .ok (.iconst 0, 1) := by decide +kernel
theorem dJx40b00_toDecimal_cabcc_205 : decode cJx40b00_toDecimal_cabcc 205 = .ok (.istore 22, 2) := by decide +kernel
theorem dJx40b00_toDecimal_cabcc_207 : decode cJx40b00_toDecimal_cabcc 207 = .ok (.iload 21, 2) := by decide +kernel
theorem dJx40b00_toDecimal_cabcc_209 : decode cJx40b00_toDecimal_cabcc 209 = .ok (.iload 22, 2) := by decide +kernel
theorem dJx40b00_toDecimal_cabcc_211 : decode cJx40b00_toDecimal_cabcc 211 = .ok (.if_icmp .eq 22, 3) := by decide +kernel
theorem dJx40b00_toDecimal_cabcc_214 : decode cJx40b00_toDecimal_cabcc 214 = .ok (.aload_n 0, 1) := by decide +kernel
theorem dJx40b00_toDecimal_cabcc_215 : decode cJx40b00_toDecimal_cabcc 215 = .ok (.iload 21, 2) := by decide +kernel
theorem dJx40b00_toDecimal_cabcc_217 : decode cJx40b00_toDecimal_cabcc 217 = .ok (.ifCond .eq 8, 3) := by decide +kernel
theorem dJx40b00_toDecimal_cabcc_220 : decode cJx40b00_toDecimal_cabcc 220 = .ok (.iload 19, 2) := by decide +kernel
theorem dJx40b00_toDecimal_cabcc_222 : decode cJx40b00_toDecimal_cabcc 222 = .ok (.goto 5, 3) := by decide +kernel
theorem dJx40b00_toDecimal_cabcc_225 : decode cJx40b00_toDecimal_cabcc 225 = .ok (.iload 20, 2) := by decide +kernel
theorem dJx40b00_toDecimal_cabcc_227 : decode cJx40b00_toDecimal_cabcc 227 = .ok (.iload 11, 2) := by decide +kernel
theorem dJx40b00_toDecimal_cabcc_229 : decode cJx40b00_toDecimal_cabcc 229 = .ok (.invokevirtual 73, 3) := by decide +kernel
theorem dJx40b00_toDecimal_cabcc_232 : decode cJx40b00_toDecimal_cabcc 232 = .ok (.ireturn, 1) := by decide +kernel
theorem dJx40b00_toDecimal_cabcc_233 : decode cJx40b00_toDecimal_cabcc 233 = .ok (.iload 18, 2) := by decide +kernel
theorem dJx40b00_toDecimal_cabcc_235 : decode cJx40b00_toDecimal_cabcc 235 = .ok (.iconst 1, 1) := by decide +kernel
theorem dJx40b00_toDecimal_cabcc_236 : decode cJx40b00_toDecimal_cabcc 236 = .ok (.iadd, 1) := by decide +kernel
theorem dJx40b00_toDecimal_cabcc_237 : decode cJx40b00_toDecimal_cabcc 237 = .ok (.istore 19, 2) := by decide +kernel
theorem dJx40b00_toDecimal_cabcc_239 : decode cJx40b00_toDecimal_cabcc 239 = .ok (.iload 16, 2) := by decide +kernel
theorem dJx40b00_toDecimal_cabcc_241 : decode cJx40b00_toDecimal_cabcc 241 = .ok (.iload 4, 2) := by decide +kernel
theorem dJx40b00_toDecimal_cabcc_243 : decode cJx40b00_toDecimal_cabcc 243 = .ok (.iadd, 1) := by decide +kernel
theorem dJx40b00_toDecimal_cabcc_244 : decode cJx40b00_toDecimal_cabcc 244 = .ok (.iload 18, 2) := by decide +kernel
theorem dJx40b00_toDecimal_cabcc_246 : decode cJx40b00_toDecimal_cabcc 246 = .ok (.iconst 2, 1) := by decide +kernel
theorem dJx40b00_toDecimal_cabcc_247 : decode cJx40b00_toDecimal_cabcc 247 = .ok (.ishl, 1) := by decide +kernel
theorem dJx40b00_toDecimal_cabcc_248 : decode cJx40b00_toDecimal_cabcc 248 = .ok (.if_icmp .gt 7, 3) := by decide +kernel
theorem dJx40b00_toDecimal_cabcc_251 : decode cJx40b00_toDecimal_cabcc 251 = .ok (.iconst 1, 1) := by decide +kernel
theorem dJx40b00_toDecimal_cabcc_252 : decode cJx40b00_toDecimal_cabcc 252 = .ok (.goto 4, 3) := by decide +kernel
theorem dJx40b00_toDecimal_cabcc_255 : decode cJx40b00_toDecimal_cabcc 255 = .ok (.iconst 0, 1) := by decide +kernel
theorem dJx40b00_toDecimal_cabcc_256 : decode cJx40b00_toDecimal_cabcc 256 = .ok (.istore 20, 2) := by decide +kernel
theorem dJx40b00_toDecimal_cabcc_258 : decode cJx40b00_toDecimal_cabcc 258 = .ok (.iload 19, 2) := by decide +kernel
theorem dJx40b00_toDecimal_cabcc_260 : decode cJx40b00_toDecimal_cabcc 260 = .ok (.iconst 2, 1) := by decide +kernel
theorem dJx40b00_toDecimal_cabcc_261 : decode cJx40b00_toDecimal_cabcc 261 = .ok (.ishl, 1) := by decide +kernel
theorem dJx40b00_toDecimal_cabcc_262 : decode cJx40b00_toDecimal_cabcc 262 = .ok (.iload 4, 2) := by decide +kernel
theorem dJx40b00_toDecimal_cabcc_264 : decode cJx40b00_toDecimal_cabcc 264 = .ok (.iadd, 1) := by decide +kernel
theorem dJx40b00_toDecimal_cabcc_265 : decode cJx40b00_toDecimal_cabcc 265 = .ok (.iload 17, 2) := by decide +kernel
theorem dJx40b00_toDecimal_cabcc_267 : decode cJx40b00_toDecimal_cabcc 267 = .ok (.if_icmp .gt 7, 3) := by decide +kernel
theorem dJx40b00_toDecimal_cabcc_270 : decode cJx40b00_toDecimal_cabcc 270 = .ok (.iconst 1, 1) := by decide +kernel
theorem dJx40b00_toDecimal_cabcc_271 : decode cJx40b00_toDecimal_cabcc 271 = .ok (.goto 4, 3) := by decide +kernel
theorem dJx40b00_toDecimal_cabcc_274 : decode cJx40b00_toDecimal_cabcc 274 = .ok (.iconst 0, 1) := by decide +kernel
theorem dJx40b00_toDecimal_cabcc_275 : decode cJx40b00_toDecimal_cabcc 275 = .ok (.istore 21, 2) := by decide +kernel
theorem dJx40b00_toDecimal_cabcc_277 : decode cJx40b00_toDecimal_cabcc 277 = .ok (.iload 20, 2) := by decide +kernel
theorem dJx40b00_toDecimal_cabcc_279 : decode cJx40b00_toDecimal_cabcc 279 = .ok (.iload 21, 2) := by decide +kernel
theorem dJx40b00_toDecimal_cabcc_281 : decode cJx40b00_toDecimal_cabcc 281 = .ok (.if_icmp .eq 24, 3) := by decide +kernel
theorem dJx40b00_toDecimal_cabcc_284 : decode cJx40b00_toDecimal_cabcc 284 = .ok (.aload_n 0, 1) := by decide +kernel
theorem dJx40b00_toDecimal_cabcc_285 : decode cJx40b00_toDecimal_cabcc 285 = .ok (.iload 20, 2) := by decide +kernel
theorem dJx40b00_toDecimal_cabcc_287 : decode cJx40b00_toDecimal_cabcc 287 = .ok (.ifCond .eq 8, 3) := by decide +kernel
theorem dJx40b00_toDecimal_cabcc_290 : decode cJx40b00_toDecimal_cabcc 290 = .ok (.iload 18, 2) := by decide +kernel
theorem dJx40b00_toDecimal_cabcc_292 : decode cJx40b00_toDecimal_cabcc 292 = .ok (.goto 5, 3) := by decide +kernel
theorem dJx40b00_toDecimal_cabcc_295 : decode cJx40b00_toDecimal_cabcc 295 = .ok (.iload 19, 2) := by decide +kernel
theorem dJx40b00_toDecimal_cabcc_297 : decode cJx40b00_toDecimal_cabcc 297 = .ok (.iload 11, 2) := by decide +kernel
theorem dJx40b00_toDecimal_cabcc_299 : decode cJx40b00_toDecimal_cabcc 299 = .ok (.iload_n 3, 1) := by decide +kernel
theorem dJx40b00_toDecimal_cabcc_300 : decode cJx40b00_toDecimal_cabcc 300 = .ok (.iadd, 1) := by decide +kernel
theorem dJx40b00_toDecimal_cabcc_301 : decode cJx40b00_toDecimal_cabcc 301 = .ok (.invokevirtual 73, 3) := by decide +kernel
theorem dJx40b00_toDecimal_cabcc_304 : decode cJx40b00_toDecimal_cabcc 304 = .ok (.ireturn, 1) := by decide +kernel
theorem dJx40b00_toDecimal_cabcc_305 : decode cJx40b00_toDecimal_cabcc 305 = .ok (.iload 15, 2) := by decide +kernel
theorem dJx40b00_toDecimal_cabcc_307 : decode cJx40b00_toDecimal_cabcc 307 = .ok (.iload 18, 2) := by decide +kernel
theorem dJx40b00_toDecimal_cabcc_309 : decode cJx40b00_toDecimal_cabcc 309 = .ok (.iload 19, 2) := by decide +kernel
theorem dJx40b00_toDecimal_cabcc_311 : decode cJx40b00_toDecimal_cabcc 311 = .ok (.iadd, 1) := by decide +kernel
theorem dJx40b00_toDecimal_cabcc_312 : decode cJx40b00_toDecimal_cabcc 312 = .ok (.iconst 1, 1) := by decide +kernel
theorem dJx40b00_toDecimal_cabcc_313 : decode cJx40b00_toDecimal_cabcc 313 = .ok (.ishl, 1) := by decide +kernel
theorem dJx40b00_toDecimal_cabcc_314 : decode cJx40b00_toDecimal_cabcc 314 = .ok (.isub, 1) := by decide +kernel
theorem dJx40b00_toDecimal_cabcc_315 : decode cJx40b00_toDecimal_cabcc 315 = .ok (.istore 22, 2) := by decide +kernel
theorem dJx40b00_toDecimal_cabcc_317 : decode cJx40b00_toDecimal_cabcc 317 = .ok (.aload_n 0, 1) := by decide +kernel
theorem dJx40b00_toDecimal_cabcc_318 : decode cJx40b00_toDecimal_cabcc 318 = .ok (.iload 22, 2) := by decide +kernel
theorem dJx40b00_toDecimal_cabcc_320 : decode cJx40b00_toDecimal_cabcc 320 = .ok (.ifCond .lt 15, 3) := by decide +kernel
theorem dJx40b00_toDecimal_cabcc_323 : decode cJx40b00_toDecimal_cabcc 323 = .ok (.iload 22, 2) := by decide +kernel
theorem dJx40b00_toDecimal_cabcc_325 : decode cJx40b00_toDecimal_cabcc 325 = .ok (.ifCond .ne 15, 3) := by decide +kernel
theorem dJx40b00_toDecimal_cabcc_328 : decode cJx40b00_toDecimal_cabcc 328 = .ok (.iload 18, 2) := by decide +kernel
theorem dJx40b00_toDecimal_cabcc_330 : decode cJx40b00_toDecimal_cabcc 330 = .ok (.iconst 1, 1) := by decide +kernel
theorem dJx40b00_toDecimal_cabcc_331 : decode cJx40b00_toDecimal_cabcc 331 = .ok (.iand, 1) := by decide +kernel
theorem dJx40b00_toDecimal_cabcc_332 : decode cJx40b00_toDecimal_cabcc 332 = .ok (.ifCond .ne 8, 3) := by decide +kernel
theorem dJx40b00_toDecimal_cabcc_335 : decode cJx40b00_toDecimal_cabcc 335 = .ok (.iload 18, 2) := by decide +kernel
theorem dJx40b00_toDecimal_cabcc_337 : decode cJx40b00_toDecimal_cabcc 337 = .ok (.goto 5, 3) := by decide +kernel
theorem dJx40b00_toDecimal_cabcc_340 : decode cJx40b00_toDecimal_cabcc 340 = .ok (.iload 19, 2) := by decide +kernel
theorem dJx40b00_toDecimal_cabcc_342 : decode cJx40b00_toDecimal_cabcc 342 = .ok (.iload 11, 2) := by decide +kernel
theorem dJx40b00_toDecimal_cabcc_344 : decode cJx40b00_toDecimal_cabcc 344 = .ok (.iload_n 3, 1) := by decide +kernel
theorem dJx40b00_toDecimal_cabcc_345 : decode cJx40b00_toDecimal_cabcc 345 = .ok (.iadd, 1) := by decide +kernel
theorem dJx40b00_toDecimal_cabcc_346 : decode cJx40b00_toDecimal_cabcc 346 = .ok (.invokevirtual 73, 3) := by decide +kernel
theorem dJx40b00_toDecimal_cabcc_349 : decode cJx40b00_toDecimal_cabcc 349 = .ok (.ireturn, 1) := by decide +kernel
theorem dJx40b00_rop_74951_0 : decode cJx40b00_rop_74951 0 = .ok (.lload_n 0, 1) := by decide +kernel
theorem dJx40b00_rop_74951_1 : decode cJx40b00_rop_74951 1 = .ok (.lload_n 2, 1) := by decide +kernel
theorem dJx40b00_rop_74951_2 : decode cJx40b00_rop_74951 2 = .ok (.invokestatic 104, 3) := by decide +kernel
theorem dJx40b00_rop_74951_5 : decode cJx40b00_rop_74951 5 = .ok (.lstore 4, 2) := by decide +kernel
theorem dJx40b00_rop_74951_7 : decode cJx40b00_rop_74951 7 = .ok (.lload 4, 2) := by decide +kernel
theorem dJx40b00_rop_74951_9 : decode cJx40b00_rop_74951 9 = .ok (.bipush 31, 2) := by decide +kernel
theorem dJx40b00_rop_74951_11 : decode cJx40b00_rop_74951 11 = .ok (.lushr, 1) := by decide +kernel
theorem dJx40b00_rop_74951_12 : decode cJx40b00_rop_74951 12 = .ok (.lstore 6, 2) := by decide +kernel
theorem dJx40b00_rop_74951_14 : decode cJx40b00_rop_74951 14 = .ok (.lload 6, 2) := by decide +kernel
theorem dJx40b00_rop_74951_16 : decode cJx40b00_rop_74951 16 = .ok (.lload 4, 2) := by decide +kernel
theorem dJx40b00_rop_74951_18 : decode cJx40b00_rop_74951 18 = .ok (.ldc2_w 110, 3) := by decide +kernel
theorem dJx40b00_rop_74951_21 : decode cJx40b00_rop_74951 21 = .ok (.land, 1) := by decide +kernel
theorem dJx40b00_rop_74951_22 : decode cJx40b00_rop_74951 22 = .ok (.ldc2_w 110, 3) := by decide +kernel
theorem dJx40b00_rop_74951_25 : decode cJx40b00_rop_74951 25 = .ok (.ladd, 1) := by decide +kernel
theorem dJx40b00_rop_74951_26 : decode cJx40b00_rop_74951 26 = .ok (.bipush 32, 2) := by decide +kernel
theorem dJx40b00_rop_74951_28 : decode cJx40b00_rop_74951 28 = .ok (.lushr, 1) := by decide +kernel
theorem dJx40b00_rop_74951_29 : decode cJx40b00_rop_74951 29 = .ok (.lor, 1) := by decide +kernel
theorem dJx40b00_rop_74951_30 : decode cJx40b00_rop_74951 30 = .ok (.l2i, 1) := by decide +kernel
theorem dJx40b00_rop_74951_31 : decode cJx40b00_rop_74951 31 = .ok (.ireturn, 1) := by decide +kernel
theorem dJx40b00_toChars_7cf53_0 : decode cJx40b00_toChars_7cf53 0 = .ok (.bipush 32, 2) := by decide +kernel
theorem dJx40b00_toChars_7cf53_2 : decode cJx40b00_toChars_7cf53 2 = .ok (.iload_n 1, 1) := by decide +kernel
theorem dJx40b00_toChars_7cf53_3 : decode cJx40b00_toChars_7cf53 3 = .ok (.invokestatic 114, 3) := by decide +kernel
theorem dJx40b00_toChars_7cf53_6 : decode cJx40b00_toChars_7cf53 6 = .ok (.isub, 1) := by decide +kernel
theorem dJx40b00_toChars_7cf53_7 : decode cJx40b00_toChars_7cf53 7 = .ok (.invokestatic 82, 3) := by decide +kernel
theorem dJx40b00_toChars_7cf53_10 : decode cJx40b00_toChars_7cf53 10 = .ok (.istore_n 3, 1) := by decide +kernel
theorem dJx40b00_toChars_7cf53_11 : decode cJx40b00_toChars_7cf53 11 = .ok (.iload_n 1, 1) := by decide +kernel
theorem dJx40b00_toChars_7cf53_12 : decode cJx40b00_toChars_7cf53 12 = .ok (.i2l, 1) := by decide +kernel
theorem dJx40b00_toChars_7cf53_13 : decode cJx40b00_toChars_7cf53 13 = .ok (.iload_n 3, 1) := by decide +kernel
theorem dJx40b00_toChars_7cf53_14 : decode cJx40b00_toChars_7cf53 14 = .ok (.invokestatic 117, 3) := by decide +kernel
theorem dJx40b00_toChars_7cf53_17 : decode cJx40b00_toChars_7cf53 17 = .ok (.lcmp, 1) := by decide +kernel
theorem dJx40b00_toChars_7cf53_18 : decode cJx40b00_toChars_7cf53 18 = .ok (.ifCond .lt 6, 3) := by decide +kernel
theorem dJx40b00_toChars_7cf53_21 : decode cJx40b00_toChars_7cf53 21 = .ok (.iinc 3 1, 3) := by decide +kernel
theorem dJx40b00_toChars_7cf53_24 : decode cJx40b00_toChars_7cf53 24 = .ok (.iload_n 1, 1) := by decide +kernel
theorem dJx40b00_toChars_7cf53_25 : decode cJx40b00_toChars_7cf53 25 = .ok (.bipush 9, 2) := by decide +kernel
theorem dJx40b00_toChars_7cf53_27 : decode cJx40b00_toChars_7cf53 27 = .ok (.iload_n 3, 1) := by decide +kernel
theorem dJx40b00_toChars_7cf53_28 : decode cJx40b00_toChars_7cf53 28 = .ok (.isub, 1) := by decide +kernel
theorem dJx40b00_toChars_7cf53_29 : decode cJx40b00_toChars_7cf53 29 = .ok (.invokestatic 117, 3) := by decide +kernel
theorem dJx40b00_toChars_7cf53_32 : decode cJx40b00_toChars_7cf53 32 = .ok (.l2i, 1) := by decide +kernel
theorem dJx40b00_toChars_7cf53_33 : decode cJx40b00_toChars_7cf53 33 = .ok (.imul, 1) := by decide +kernel
theorem dJx40b00_toChars_7cf53_34 : decode cJx40b00_toChars_7cf53 34 = .ok (.istore_n 1, 1) := by decide +kernel
theorem dJx40b00_toChars_7cf53_35 : decode cJx40b00_toChars_7cf53 35 = .ok (.iload_n 2, 1) := by decide +kernel
theorem dJx40b00_toChars_7cf53_36 : decode cJx40b00_toChars_7cf53 36 = .ok (.iload_n 3, 1) := by decide +kernel
theorem dJx40b00_toChars_7cf53_37 : decode cJx40b00_toChars_7cf53 37 = .ok (.iadd, 1) := by decide +kernel
theorem dJx40b00_toChars_7cf53_38 : decode cJx40b00_toChars_7cf53 38 = .ok (.istore_n 2, 1) := by decide +kernel
theorem dJx40b00_toChars_7cf53_39 : decode cJx40b00_toChars_7cf53 39 = .ok (.iload_n 1, 1) := by decide +kernel
theorem dJx40b00_toChars_7cf53_40 : decode cJx40b00_toChars_7cf53 40 = .ok (.i2l, 1) := by decide +kernel
theorem dJx40b00_toChars_7cf53_41 : decode cJx40b00_toChars_7cf53 41 = .ok (.ldc2_w 120, 3) := by decide +kernel
theorem dJx40b00_toChars_7cf53_44 : decode cJx40b00_toChars_7cf53 44 = .ok (.lmul, 1) := by decide +kernel
theorem dJx40b00_toChars_7cf53_45 : decode cJx40b00_toChars_7cf53 45 = .ok (.bipush 57, 2) := by decide +kernel
theorem dJx40b00_toChars_7cf53_47 : decode cJx40b00_toChars_7cf53 47 = .ok (.lushr, 1) := by decide +kernel
theorem dJx40b00_toChars_7cf53_48 : decode cJx40b00_toChars_7cf53 48 = .ok (.l2i, 1) := by decide +kernel
theorem dJx40b00_toChars_7cf53_49 : decode cJx40b00_toChars_7cf53 49 = .ok (.istore 4, 2) := by decide +kernel
theorem dJx40b00_toChars_7cf53_51 : decode cJx40b00_toChars_7cf53 51 = .ok (.iload_n 1, 1) := by decide +kernel
theorem dJx40b00_toChars_7cf53_52 : decode cJx40b00_toChars_7cf53 52 = .ok (.ldc 122, 2) := by decide +kernel
theorem dJx40b00_toChars_7cf53_54 : decode cJx40b00_toChars_7cf53 54 = .ok (.iload 4, 2) := by decide +kernel
theorem dJx40b00_toChars_7cf53_56 : decode cJx40b00_toChars_7cf53 56 = .ok (.imul, 1) := by decide +kernel
theorem dJx40b00_toChars_7cf53_57 : decode cJx40b00_toChars_7cf53 57 = .ok (.isub, 1) := by decide +kernel
theorem dJx40b00_toChars_7cf53_58 : decode cJx40b00_toChars_7cf53 58 = .ok (.istore 5, 2) := by decide +kernel
theorem dJx40b00_toChars_7cf53_60 : decode cJx40b00_toChars_7cf53 60 = .ok (.iconst 0, 1) := by decide +kernel
theorem dJx40b00_toChars_7cf53_61 : decode cJx40b00_toChars_7cf53 61 = .ok (.iload_n 2, 1) := by decide +kernel
theorem dJx40b00_toChars_7cf53_62 : decode cJx40b00_toChars_7cf53 62 = .ok (.if_icmp .ge 19, 3) := by decide +kernel
theorem dJx40b00_toChars_7cf53_65 : decode cJx40b00_toChars_7cf53 65 = .ok (.iload_n 2, 1) := by decide +kernel
theorem dJx40b00_toChars_7cf53_66 : decode cJx40b00_toChars_7cf53 66 = .ok (.bipush 7, 2) := by decide +kernel
theorem dJx40b00_toChars_7cf53_68 : decode cJx40b00_toChars_7cf53 68 = .ok (.if_icmp .gt 13, 3) := by decide +kernel
theorem dJx40b00_toChars_7cf53_71 : decode cJx40b00_toChars_7cf53 71 = .ok (.aload_n 0, 1) := by decide +kernel
theorem dJx40b00_toChars_7cf53_72 : decode cJx40b00_toChars_7cf53 72 = .ok (.iload 4, 2) := by decide +kernel
theorem dJx40b00_toChars_7cf53_74 : decode cJx40b00_toChars_7cf53 74 = .ok (.iload 5, 2) := by decide +kernel
theorem dJx40b00_toChars_7cf53_76 : decode cJx40b00_toChars_7cf53 76 = .ok (.iload_n 2, 1) := by decide +kernel
theorem dJx40b00_toChars_7cf53_77 : decode cJx40b00_toChars_7cf53 77 = .ok (.invokevirtual 123, 3) := by decide +kernel
theorem dJx40b00_toChars_7cf53_80 : decode cJx40b00_toChars_7cf53 80 = .ok (.ireturn, 1) := by decide +kernel
theorem dJx40b00_toChars_7cf53_81 : decode cJx40b00_toChars_7cf53 81 = .ok (.bipush (-3), 2) := by decide +kernel
theorem dJx40b00_toChars_7cf53_83 : decode cJx40b00_toChars_7cf53 83 = .ok (.iload_n 2, 1) := by decide +kernel
theorem dJx40b00_toChars_7cf53_84 : decode cJx40b00_toChars_7cf53 84 = .ok (.if_icmp .ge 17, 3) := by decide +kernel
theorem dJx40b00_toChars_7cf53_87 : decode cJx40b00_toChars_7cf53 87 = .ok (.iload_n 2, 1) := by decide +kernel
theorem dJx40b00_toChars_7cf53_88 : decode cJx40b00_toChars_7cf53 88 = .ok (.ifCond .gt 13, 3) := by decide +kernel
theorem dJx40b00_toChars_7cf53_91 : decode cJx40b00_toChars_7cf53 91 = .ok (.aload_n 0, 1) := by decide +kernel
theorem dJx40b00_toChars_7cf53_92 : decode cJx40b00_toChars_7cf53 92 = .ok (.iload 4, 2) := by decide +kernel
theorem dJx40b00_toChars_7cf53_94 : decode cJx40b00_toChars_7cf53 94 = .ok (.iload 5, 2) := by decide +kernel
theorem dJx40b00_toChars_7cf53_96 : decode cJx40b00_toChars_7cf53 96 = .ok (.iload_n 2, 1) := by decide +kernel
theorem dJx40b00_toChars_7cf53_97 : decode cJx40b00_toChars_7cf53 97 = .ok (.invokevirtual 126, 3) := by decide +kernel
theorem dJx40b00_toChars_7cf53_100 : decode cJx40b00_toChars_7cf53 100 = .ok (.ireturn, 1) := by decide +kernel
theorem dJx40b00_toChars_7cf53_101 : decode cJx40b00_toChars_7cf53 101 = .ok (.aload_n 0, 1) := by decide +kernel
theorem dJx40b00_toChars_7cf53_102 : decode cJx40b00_toChars_7cf53 102 = .ok (.iload 4, 2) := by decide +kernel
theorem dJx40b00_toChars_7cf53_104 : decode cJx40b00_toChars_7cf53 104 = .ok (.iload 5, 2) := by decide +kernel
theorem dJx40b00_toChars_7cf53_106 : decode cJx40b00_toChars_7cf53 106 = .ok (.iload_n 2, 1) := by decide +kernel
theorem dJx40b00_toChars_7cf53_107 : decode cJx40b00_toChars_7cf53 107 = .ok (.invokevirtual 129, 3) := by decide +kernel
theorem dJx40b00_toChars_7cf53_110 : decode cJx40b00_toChars_7cf53 110 = .ok (.ireturn, 1) := by decide +kernel
theorem dJx40b00_toChars1_cabcc_0 : decode cJx40b00_toChars1_cabcc 0 = .ok (.aload_n 0, 1) := by decide +kernel
theorem dJx40b00_toChars1_cabcc_1 : decode cJx40b00_toChars1_cabcc 1 = .ok (.iload_n 1, 1) := by decide +kernel
theorem dJx40b00_toChars1_cabcc_2 : decode cJx40b00_toChars1_cabcc 2 = .ok (.invokevirtual 132, 3) := by decide +kernel
theorem dJx40b00_toChars1_cabcc_5 : decode cJx40b00_toChars1_cabcc 5 = .ok (.aload_n 0, 1) := by decide +kernel
theorem dJx40b00_toChars1_cabcc_6 : decode cJx40b00_toChars1_cabcc 6 = .ok (.iload_n 2, 1) := by decide +kernel
theorem dJx40b00_toChars1_cabcc_7 : decode cJx40b00_toChars1_cabcc 7 = .ok (.invokevirtual 135, 3) := by decide +kernel
theorem dJx40b00_toChars1_cabcc_10 : decode cJx40b00_toChars1_cabcc 10 = .ok (.istore 4, 2) := by decide +kernel
theorem dJx40b00_toChars1_cabcc_12 : decode cJx40b00_toChars1_cabcc 12 = .ok (.iconst 1, 1) := by decide +kernel
theorem dJx40b00_toChars1_cabcc_13 : decode cJx40b00_toChars1_cabcc 13 = .ok (.istore 6, 2) := by decide +kernel
theorem dJx40b00_toChars1_cabcc_15 : decode cJx40b00_toChars1_cabcc 15 = .ok (.iload 6, 2) := by decide +kernel
theorem dJx40b00_toChars1_cabcc_17 : decode cJx40b00_toChars1_cabcc 17 = .ok (.iload_n 3, 1) := by decide +kernel
theorem dJx40b00_toChars1_cabcc_18 : decode cJx40b00_toChars1_cabcc 18 = .ok (.if_icmp .ge 32, 3) := by decide +kernel
theorem dJx40b00_toChars1_cabcc_21 : decode cJx40b00_toChars1_cabcc 21 = .ok (.bipush 10, 2) := by decide +kernel
theorem dJx40b00_toChars1_cabcc_23 : decode cJx40b00_toChars1_cabcc 23 = .ok (.iload 4, 2) := by decide +kernel
theorem dJx40b00_toChars1_cabcc_25 : decode cJx40b00_toChars1_cabcc 25 = .ok (.imul, 1) := by decide +kernel
theorem dJx40b00_toChars1_cabcc_26 : decode cJx40b00_toChars1_cabcc 26 = .ok (.istore 5, 2) := by decide +kernel
theorem dJx40b00_toChars1_cabcc_28 : decode cJx40b00_toChars1_cabcc 28 = .ok (.aload_n 0, 1) := by decide +kernel
theorem dJx40b00_toChars1_cabcc_29 : decode cJx40b00_toChars1_cabcc 29 = .ok (.iload 5, 2) := by decide +kernel
theorem dJx40b00_toChars1_cabcc_31 : decode cJx40b00_toChars1_cabcc 31 = .ok (.bipush 28, 2) := by decide +kernel
theorem dJx40b00_toChars1_cabcc_33 : decode cJx40b00_toChars1_cabcc 33 = .ok (.iushr, 1) := by decide +kernel
theorem dJx40b00_toChars1_cabcc_34 : decode cJx40b00_toChars1_cabcc 34 = .ok (.invokevirtual 132, 3) := by decide +kernel
theorem dJx40b00_toChars1_cabcc_37 : decode cJx40b00_toChars1_cabcc 37 = .ok (.iload 5, 2) := by decide +kernel
theorem dJx40b00_toChars1_cabcc_39 : decode cJx40b00_toChars1_cabcc 39 = .ok (.ldc 138, 2) := by decide +kernel
theorem dJx40b00_toChars1_cabcc_41 : decode cJx40b00_toChars1_cabcc 41 = .ok (.iand, 1) := by decide +kernel
theorem dJx40b00_toChars1_cabcc_42 : decode cJx40b00_toChars1_cabcc 42 = .ok (.istore 4, 2) := by decide +kernel
theorem dJx40b00_toChars1_cabcc_44 : decode cJx40b00_toChars1_cabcc 44 = .ok (.iinc 6 1, 3) := by decide +kernel
theorem dJx40b00_toChars1_cabcc_47 : decode cJx40b00_toChars1_cabcc 47 = .ok (.goto (-32), 3) := by decide +kernel
theorem dJx40b00_toChars1_cabcc_50 : decode cJx40b00_toChars1_cabcc 50 = .ok (.aload_n 0, 1) := by decide +kernel
theorem dJx40b00_toChars1_cabcc_51 : decode cJx40b00_toChars1_cabcc 51 = .ok (.bipush 46, 2) := by decide +kernel
theorem dJx40b00_toChars1_cabcc_53 : decode cJx40b00_toChars1_cabcc 53 = .ok (.invokevirtual 69, 3) := by decide +kernel
theorem dJx40b00_toChars1_cabcc_56 : decode cJx40b00_toChars1_cabcc 56 = .ok (.iload 6, 2) := by decide +kernel
theorem dJx40b00_toChars1_cabcc_58 : decode cJx40b00_toChars1_cabcc 58 = .ok (.bipush 8, 2) := by decide +kernel
theorem dJx40b00_toChars1_cabcc_60 : decode cJx40b00_toChars1_cabcc 60 = .ok (.if_icmp .gt 32, 3) := by decide +kernel
theorem dJx40b00_toChars1_cabcc_63 : decode cJx40b00_toChars1_cabcc 63 = .ok (.bipush 10, 2) := by decide +kernel
theorem dJx40b00_toChars1_cabcc_65 : decode cJx40b00_toChars1_cabcc 65 = .ok (.iload 4, 2) := by decide +kernel
theorem dJx40b00_toChars1_cabcc_67 : decode cJx40b00_toChars1_cabcc 67 = .ok (.imul, 1) := by decide +kernel
theorem dJx40b00_toChars1_cabcc_68 : decode cJx40b00_toChars1_cabcc 68 = .ok (.istore 5, 2) := by decide +kernel
theorem dJx40b00_toChars1_cabcc_70 : decode cJx40b00_toChars1_cabcc 70 = .ok (.aload_n 0, 1) := by decide +kernel
theorem dJx40b00_toChars1_cabcc_71 : decode cJx40b00_toChars1_cabcc 71 = .ok (.iload 5, 2) := by decide +kernel
theorem dJx40b00_toChars1_cabcc_73 : decode cJx40b00_toChars1_cabcc 73 = .ok (.bipush 28, 2) := by decide +kernel
theorem dJx40b00_toChars1_cabcc_75 : decode cJx40b00_toChars1_cabcc 75 = .ok (.iushr, 1) := by decide +kernel
theorem dJx40b00_toChars1_cabcc_76 : decode cJx40b00_toChars1_cabcc 76 = .ok (.invokevirtual 132, 3) := by decide +kernel
theorem dJx40b00_toChars1_cabcc_79 : decode cJx40b00_toChars1_cabcc 79 = .ok (.iload 5, 2) := by decide +kernel
theorem dJx40b00_toChars1_cabcc_81 : decode cJx40b00_toChars1_cabcc 81 = .ok (.ldc 138, 2) := by decide +kernel
theorem dJx40b00_toChars1_cabcc_83 : decode cJx40b00_toChars1_cabcc 83 = .ok (.iand, 1) := by decide +kernel
theorem dJx40b00_toChars1_cabcc_84 : decode cJx40b00_toChars1_cabcc 84 = .ok (.istore 4, 2) := by decide +kernel
theorem dJx40b00_toChars1_cabcc_86 : decode cJx40b00_toChars1_cabcc 86 = .ok (.iinc 6 1, 3) := by decide +kernel
theorem dJx40b00_toChars1_cabcc_89 : decode cJx40b00_toChars1_cabcc 89 = .ok (.goto (-33), 3) := by decide +kernel
theorem dJx40b00_toChars1_cabcc_92 : decode cJx40b00_toChars1_cabcc 92 = .ok (.aload_n 0, 1) := by decide +kernel
theorem dJx40b00_toChars1_cabcc_93 : decode cJx40b00_toChars1_cabcc 93 = .ok (.invokevirtual 139, 3) := by decide +kernel
theorem dJx40b00_toChars1_cabcc_96 : decode cJx40b00_toChars1_cabcc 96 = .ok (.iconst 0, 1) := by decide +kernel
theorem dJx40b00_toChars1_cabcc_97 : decode cJx40b00_toChars1_cabcc 97 = .ok (.ireturn, 1) := by decide +kernel
theorem dJx40b00_toChars2_cabcc_0 : decode cJx40b00_toChars2_cabcc 0 = .ok (.aload_n 0, 1) := by decide +kernel
theorem dJx40b00_toChars2_cabcc_1 : decode cJx40b00_toChars2_cabcc 1 = .ok (.iconst 0, 1) := by decide +kernel
theorem dJx40b00_toChars2_cabcc_2 : decode cJx40b00_toChars2_cabcc 2 = .ok (.invokevirtual 132, 3) := by decide +kernel
theorem dJx40b00_toChars2_cabcc_5 : decode cJx40b00_toChars2_cabcc 5 = .ok (.aload_n 0, 1) := by decide +kernel
theorem dJx40b00_toChars2_cabcc_6 : decode cJx40b00_toChars2_cabcc 6 = .ok (.bipush 46, 2) := by decide +kernel
theorem dJx40b00_toChars2_cabcc_8 : decode cJx40b00_toChars2_cabcc 8 = .ok (.invokevirtual 69, 3) := by decide +kernel
theorem dJx40b00_toChars2_cabcc_11 : decode cJx40b00_toChars2_cabcc 11 = .ok (.iload_n 3, 1) := by decide +kernel
theorem dJx40b00_toChars2_cabcc_12 : decode cJx40b00_toChars2_cabcc 12 = .ok (.ifCond .ge 14, 3) := by decide +kernel
theorem dJx40b00_toChars2_cabcc_15 : decode cJx40b00_toChars2_cabcc 15 = .ok (.aload_n 0, 1) := by decide +kernel
theorem dJx40b00_toChars2_cabcc_16 : decode cJx40b00_toChars2_cabcc 16 = .ok (.iconst 0, 1) := by decide +kernel
theorem dJx40b00_toChars2_cabcc_17 : decode cJx40b00_toChars2_cabcc 17 = .ok (.invokevirtual 132, 3) := by decide +kernel
theorem dJx40b00_toChars2_cabcc_20 : decode cJx40b00_toChars2_cabcc 20 = .ok (.iinc 3 1, 3) := by decide +kernel
theorem dJx40b00_toChars2_cabcc_23 : decode cJx40b00_toChars2_cabcc 23 = .ok (.goto (-12), 3) := by decide +kernel
theorem dJx40b00_toChars2_cabcc_26 : decode cJx40b00_toChars2_cabcc 26 = .ok (.aload_n 0, 1) := by decide +kernel
theorem dJx40b00_toChars2_cabcc_27 : decode cJx40b00_toChars2_cabcc 27 = .ok (.iload_n 1, 1) := by decide +kernel
theorem dJx40b00_toChars2_cabcc_28 : decode cJx40b00_toChars2_cabcc 28 = .ok (.invokevirtual 132, 3) := by decide +kernel
theorem dJx40b00_toChars2_cabcc_31 : decode cJx40b00_toChars2_cabcc 31 = .ok (.aload_n 0, 1) := by decide +kernel
theorem dJx40b00_toChars2_cabcc_32 : decode cJx40b00_toChars2_cabcc 32 = .ok (.iload_n 2, 1) := by decide +kernel
theorem dJx40b00_toChars2_cabcc_33 : decode cJx40b00_toChars2_cabcc 33 = .ok (.invokevirtual 142, 3) := by decide +kernel
theorem dJx40b00_toChars2_cabcc_36 : decode cJx40b00_toChars2_cabcc 36 = .ok (.aload_n 0, 1) := by decide +kernel
theorem dJx40b00_toChars2_cabcc_37 : decode cJx40b00_toChars2_cabcc 37 = .ok (.invokevirtual 139, 3) := by decide +kernel
theorem dJx40b00_toChars2_cabcc_40 : decode cJx40b00_toChars2_cabcc 40 = .ok (.iconst 0, 1) := by decide +kernel
theorem dJx40b00_toChars2_cabcc_41 : decode cJx40b00_toChars2_cabcc 41 = .ok (.ireturn, 1) := by decide +kernel
theorem dJx40b00_toChars3_cabcc_0 : decode cJx40b00_toChars3_cabcc 0 = .ok (.aload_n 0, 1) := by decide +kernel
theorem dJx40b00_toChars3_cabcc_1 : decode cJx40b00_toChars3_cabcc 1 = .ok (.iload_n 1, 1) := by decide +kernel
theorem dJx40b00_toChars3_cabcc_2 : decode cJx40b00_toChars3_cabcc 2 = .ok (.invokevirtual 132, 3) := by decide +kernel
theorem dJx40b00_toChars3_cabcc_5 : decode cJx40b00_toChars3_cabcc 5 = .ok (.aload_n 0, 1) := by decide +kernel
theorem dJx40b00_toChars3_cabcc_6 : decode cJx40b00_toChars3_cabcc 6 = .ok (.bipush 46, 2) := by decide +kernel
theorem dJx40b00_toChars3_cabcc_8 : decode cJx40b00_toChars3_cabcc 8 = .ok (.invokevirtual 69, 3) := by decide +kernel
theorem dJx40b00_toChars3_cabcc_11 : decode cJx40b00_toChars3_cabcc 11 = .ok (.aload_n 0, 1) := by decide +kernel
theorem dJx40b00_toChars3_cabcc_12 : decode cJx40b00_toChars3_cabcc 12 = .ok (.iload_n 2, 1) := by decide +kernel
theorem dJx40b00_toChars3_cabcc_13 : decode cJx40b00_toChars3_cabcc 13 = .ok (.invokevirtual 142, 3) := by decide +kernel
theorem dJx40b00_toChars3_cabcc_16 : decode cJx40b00_toChars3_cabcc 16 = .ok (.aload_n 0, 1) := by decide +kernel
theorem dJx40b00_toChars3_cabcc_17 : decode cJx40b00_toChars3_cabcc 17 = .ok (.invokevirtual 139, 3) := by decide +kernel
theorem dJx40b00_toChars3_cabcc_20 : decode cJx40b00_toChars3_cabcc 20 = .ok (.aload_n 0, 1) := by decide +kernel
theorem dJx40b00_toChars3_cabcc_21 : decode cJx40b00_toChars3_cabcc 21 = .ok (.iload_n 3, 1) := by decide +kernel
theorem dJx40b00_toChars3_cabcc_22 : decode cJx40b00_toChars3_cabcc 22 = .ok (.iconst 1, 1) := by decide +kernel
theorem dJx40b00_toChars3_cabcc_23 : decode cJx40b00_toChars3_cabcc 23 = .ok (.isub, 1) := by decide +kernel
theorem dJx40b00_toChars3_cabcc_24 : decode cJx40b00_toChars3_cabcc 24 = .ok (.invokevirtual 145, 3) := by decide +kernel
theorem dJx40b00_toChars3_cabcc_27 : decode cJx40b00_toChars3_cabcc 27 = .ok (.iconst 0, 1) := by decide +kernel
theorem dJx40b00_toChars3_cabcc_28 : decode cJx40b00_toChars3_cabcc 28 = .ok (.ireturn, 1) := by decide +kernel
theorem dJx40b00_append8Digits_d00df_0 : decode cJx40b00_append8Digits_d00df 0 = .ok (.aload_n 0, 1) := by decide +kernel
theorem dJx40b00_append8Digits_d00df_1 : decode cJx40b00_append8Digits_d00df 1 = .ok (.iload_n 1, 1) := by decide +kernel
theorem dJx40b00_append8Digits_d00df_2 : decode cJx40b00_append8Digits_d00df 2 = .ok (.invokevirtual 135, 3) := by decide +kernel
theorem dJx40b00_append8Digits_d00df_5 : decode cJx40b00_append8Digits_d00df 5 = .ok (.istore_n 2, 1) := by decide +kernel
theorem dJx40b00_append8Digits_d00df_6 : decode cJx40b00_append8Digits_d00df 6 = .ok (.iconst 0, 1) := by decide +kernel
theorem dJx40b00_append8Digits_d00df_7 : decode cJx40b00_append8Digits_d00df 7 = .ok (.istore_n 3, 1) := by decide +kernel
theorem dJx40b00_append8Digits_d00df_8 : decode cJx40b00_append8Digits_d00df 8 = .ok (.iload_n 3, 1) := by decide +kernel
theorem dJx40b00_append8Digits_d00df_9 : decode cJx40b00_append8Digits_d00df 9 = .ok (.bipush 8, 2) := by decide +kernel
theorem dJx40b00_append8Digits_d00df_11 : decode cJx40b00_append8Digits_d00df 11 = .ok (.if_icmp .ge 30, 3) := by decide +kernel
theorem dJx40b00_append8Digits_d00df_14 : decode cJx40b00_append8Digits_d00df 14 = .ok (.bipush 10, 2) := by decide +kernel
theorem dJx40b00_append8Digits_d00df_16 : decode cJx40b00_append8Digits_d00df 16 = .ok (.iload_n 2, 1) := by decide +kernel
theorem dJx40b00_append8Digits_d00df_17 : decode cJx40b00_append8Digits_d00df 17 = .ok (.imul, 1) := by decide +kernel
theorem dJx40b00_append8Digits_d00df_18 : decode cJx40b00_append8Digits_d00df 18 = .ok (.istore 4, 2) := by decide +kernel
theorem dJx40b00_append8Digits_d00df_20 : decode cJx40b00_append8Digits_d00df 20 = .ok (.aload_n 0, 1) := by decide +kernel
theorem dJx40b00_append8Digits_d00df_21 : decode cJx40b00_append8Digits_d00df 21 = .ok (.iload 4, 2) := by decide +kernel
theorem dJx40b00_append8Digits_d00df_23 : decode cJx40b00_append8Digits_d00df 23 = .ok (.bipush 28, 2) := by decide +kernel
theorem dJx40b00_append8Digits_d00df_25 : decode cJx40b00_append8Digits_d00df 25 = .ok (.iushr, 1) := by decide +kernel
theorem dJx40b00_append8Digits_d00df_26 : decode cJx40b00_append8Digits_d00df 26 = .ok (.invokevirtual 132, 3) := by decide +kernel
theorem dJx40b00_append8Digits_d00df_29 : decode cJx40b00_append8Digits_d00df 29 = .ok (.iload 4, 2) := by decide +kernel
theorem dJx40b00_append8Digits_d00df_31 : decode cJx40b00_append8Digits_d00df 31 = .ok (.ldc 138, 2) := by decide +kernel
theorem dJx40b00_append8Digits_d00df_33 : decode cJx40b00_append8Digits_d00df 33 = .ok (.iand, 1) := by decide +kernel
theorem dJx40b00_append8Digits_d00df_34 : decode cJx40b00_append8Digits_d00df 34 = .ok (.istore_n 2, 1) := by decide +kernel
theorem dJx40b00_append8Digits_d00df_35 : decode cJx40b00_append8Digits_d00df 35 = .ok (.iinc 3 1, 3) := by decide +kernel
theorem dJx40b00_append8Digits_d00df_38 : decode cJx40b00_append8Digits_d00df 38 = .ok (.goto (-30), 3) := by decide +kernel
theorem dJx40b00_append8Digits_d00df_41 : decode cJx40b00_append8Digits_d00df 41 = .ok (.return_, 1) := by decide +kernel
theorem dJx40b00_removeTrailingZeroes_da8c8_0 : decode cJx40b00_removeTrailingZeroes_da8c8 0 = .ok (.aload_n 0, 1) := by decide +kernel
theorem dJx40b00_removeTrailingZeroes_da8c8_1 : decode cJx40b00_removeTrailingZeroes_da8c8 1 = .ok (.getfield 11, 3) := by decide +kernel
theorem dJx40b00_removeTrailingZeroes_da8c8_4 : decode cJx40b00_removeTrailingZeroes_da8c8 4 = .ok (.aload_n 0, 1) := by decide +kernel
theorem dJx40b00_removeTrailingZeroes_da8c8_5 : decode cJx40b00_removeTrailingZeroes_da8c8 5 = .ok (.getfield 42, 3) := by decide +kernel
theorem dJx40b00_removeTrailingZeroes_da8c8_8 : decode cJx40b00_removeTrailingZeroes_da8c8 8 = .ok (.baload, 1) := by decide +kernel
theorem dJx40b00_removeTrailingZeroes_da8c8_9 : decode cJx40b00_removeTrailingZeroes_da8c8 9 = .ok (.bipush 48, 2) := by decide +kernel
theorem dJx40b00_removeTrailingZeroes_da8c8_11 : decode cJx40b00_removeTrailingZeroes_da8c8 11 = .ok (.if_icmp .ne 16, 3) := by decide +kernel
theorem dJx40b00_removeTrailingZeroes_da8c8_14 : decode cJx40b00_removeTrailingZeroes_da8c8 14 = .ok (.aload_n 0, 1) := by decide +kernel
theorem dJx40b00_removeTrailingZeroes_da8c8_15 : decode cJx40b00_removeTrailingZeroes_da8c8 15 = .ok (.dup, 1) := by decide +kernel
theorem dJx40b00_removeTrailingZeroes_da8c8_16 : decode cJx40b00_removeTrailingZeroes_da8c8 16 = .ok (.getfield 42, 3) := by decide +kernel
theorem dJx40b00_removeTrailingZeroes_da8c8_19 : decode cJx40b00_removeTrailingZeroes_da8c8 19 = .ok (.iconst 1, 1) := by decide +kernel
theorem dJx40b00_removeTrailingZeroes_da8c8_20 : decode cJx40b00_removeTrailingZeroes_da8c8 20 = .ok (.isub, 1) := by decide +kernel
theorem dJx40b00_removeTrailingZeroes_da8c8_21 : decode cJx40b00_removeTrailingZeroes_da8c8 21 = .ok (.putfield 42, 3) := by decide +kernel
theorem dJx40b00_removeTrailingZeroes_da8c8_24 : decode cJx40b00_removeTrailingZeroes_da8c8 24 = .ok (.goto (-24), 3) := by decide +kernel
theorem dJx40b00_removeTrailingZeroes_da8c8_27 : decode cJx40b00_removeTrailingZeroes_da8c8 27 = .ok (.aload_n 0, 1) := by decide +kernel
theorem dJx40b00_removeTrailingZeroes_da8c8_28 : decode cJx40b00_removeTrailingZeroes_da8c8 28 = .ok (.getfield 11, 3) := by decide +kernel
theorem dJx40b00_removeTrailingZeroes_da8c8_31 : decode cJx40b00_removeTrailingZeroes_da8c8 31 = .ok (.aload_n 0, 1) := by decide +kernel
theorem dJx40b00_removeTrailingZeroes_da8c8_32 : decode cJx40b00_removeTrailingZeroes_da8c8 32 = .ok (.getfield 42, 3) := by decide +kernel
theorem dJx40b00_removeTrailingZeroes_da8c8_35 : decode cJx40b00_removeTrailingZeroes_da8c8 35 = .ok (.baload, 1) := by decide +kernel
theorem dJx40b00_removeTrailingZeroes_da8c8_36 : decode cJx40b00_removeTrailingZeroes_da8c8 36 = .ok (.bipush 46, 2) := by decide +kernel
theorem dJx40b00_removeTrailingZeroes_da8c8_38 : decode cJx40b00_removeTrailingZeroes_da8c8 38 = .ok (.if_icmp .ne 13, 3) := by decide +kernel
theorem dJx40b00_removeTrailingZeroes_da8c8_41 : decode cJx40b00_removeTrailingZeroes_da8c8 41 = .ok (.aload_n 0, 1) := by decide +kernel
theorem dJx40b00_removeTrailingZeroes_da8c8_42 : decode cJx40b00_removeTrailingZeroes_da8c8 42 = .ok (.dup, 1) := by decide +kernel
theorem dJx40b00_removeTrailingZeroes_da8c8_43 : decode cJx40b00_removeTrailingZeroes_da8c8 43 = .ok (.getfield 42, 3) := by decide +kernel
theorem dJx40b00_removeTrailingZeroes_da8c8_46 : decode cJx40b00_removeTrailingZeroes_da8c8 46 = .ok (.iconst 1, 1) := by decide +kernel
theorem dJx40b00_removeTrailingZeroes_da8c8_47 : decode cJx40b00_removeTrailingZeroes_da8c8 47 = .ok (.iadd, 1) := by decide +kernel
theorem dJx40b00_removeTrailingZeroes_da8c8_48 : decode cJx40b00_removeTrailingZeroes_da8c8 48 = .ok (.putfield 42, 3) := by decide +kernel
theorem dJx40b00_removeTrailingZeroes_da8c8_51 : decode cJx40b00_removeTrailingZeroes_da8c8 51 = .ok (.return_, 1) := by decide +kernel
theorem dJx40b00_y_0f7a4_0 : decode cJx40b00_y_0f7a4 0 = .ok (.iload_n 1, 1) := by decide +kernel
theorem dJx40b00_y_0f7a4_1 : decode cJx40b00_y_0f7a4 1 = .ok (.iconst 1, 1) := by decide +kernel
theorem dJx40b00_y_0f7a4_2 : decode cJx40b00_y_0f7a4 2 = .ok (.iadd, 1) := by decide +kernel
theorem dJx40b00_y_0f7a4_3 : decode cJx40b00_y_0f7a4 3 = .ok (.i2l, 1) := by decide +kernel
theorem dJx40b00_y_0f7a4_4 : decode cJx40b00_y_0f7a4 4 = .ok (.bipush 28, 2) := by decide +kernel
theorem dJx40b00_y_0f7a4_6 : decode cJx40b00_y_0f7a4 6 = .ok (.lshl, 1) := by decide +kernel
theorem dJx40b00_y_0f7a4_7 : decode cJx40b00_y_0f7a4 7 = .ok (.ldc2_w 148, 3) := by decide +kernel
theorem dJx40b00_y_0f7a4_10 : decode cJx40b00_y_0f7a4 10 = .ok (.invokestatic 104, 3) := by decide +kernel
theorem dJx40b00_y_0f7a4_13 : decode cJx40b00_y_0f7a4 13 = .ok (.bipush 20, 2) := by decide +kernel
theorem dJx40b00_y_0f7a4_15 : decode cJx40b00_y_0f7a4 15 = .ok (.lushr, 1) := by decide +kernel
theorem dJx40b00_y_0f7a4_16 : decode cJx40b00_y_0f7a4 16 = .ok (.l2i, 1) := by decide +kernel
theorem dJx40b00_y_0f7a4_17 : decode cJx40b00_y_0f7a4 17 = .ok (.iconst 1, 1) := by decide +kernel
theorem dJx40b00_y_0f7a4_18 : decode cJx40b00_y_0f7a4 18 = .ok (.isub, 1) := by decide +kernel
theorem dJx40b00_y_0f7a4_19 : decode cJx40b00_y_0f7a4 19 = .ok (.ireturn, 1) := by decide +kernel
theorem dJx40b00_exponent_d00df_0 : decode cJx40b00_exponent_d00df 0 = .ok (.aload_n 0, 1) := by decide +kernel
theorem dJx40b00_exponent_d00df_1 : decode cJx40b00_exponent_d00df 1 = .ok (.bipush 69, 2) := by decide +kernel
theorem dJx40b00_exponent_d00df_3 : decode cJx40b00_exponent_d00df 3 = .ok (.invokevirtual 69, 3) := by decide +kernel
theorem dJx40b00_exponent_d00df_6 : decode cJx40b00_exponent_d00df 6 = .ok (.iload_n 1, 1) := by decide +kernel
theorem dJx40b00_exponent_d00df_7 : decode cJx40b00_exponent_d00df 7 = .ok (.ifCond .ge 12, 3) := by decide +kernel
theorem dJx40b00_exponent_d00df_10 : decode cJx40b00_exponent_d00df 10 = .ok (.aload_n 0, 1) := by decide +kernel
theorem dJx40b00_exponent_d00df_11 : decode cJx40b00_exponent_d00df 11 = .ok (.bipush 45, 2) := by decide +kernel
theorem dJx40b00_exponent_d00df_13 : decode cJx40b00_exponent_d00df 13 = .ok (.invokevirtual 69, 3) := by decide +kernel
theorem dJx40b00_exponent_d00df_16 : decode cJx40b00_exponent_d00df 16 = .ok (.iload_n 1, 1) := by decide +kernel
theorem dJx40b00_exponent_d00df_17 : decode cJx40b00_exponent_d00df 17 = .ok (.ineg, 1) := by decide +kernel
theorem dJx40b00_exponent_d00df_18 : decode cJx40b00_exponent_d00df 18 = .ok (.istore_n 1, 1) := by decide +kernel
theorem dJx40b00_exponent_d00df_19 : decode cJx40b00_exponent_d00df 19 = .ok (.iload_n 1, 1) := by decide +kernel
theorem dJx40b00_exponent_d00df_20 : decode cJx40b00_exponent_d00df 20 = .ok (.bipush 10, 2) := by decide +kernel
theorem dJx40b00_exponent_d00df_22 : decode cJx40b00_exponent_d00df 22 = .ok (.if_icmp .ge 9, 3) := by decide +kernel
theorem dJx40b00_exponent_d00df_25 : decode cJx40b00_exponent_d00df 25 = .ok (.aload_n 0, 1) := by decide +kernel
theorem dJx40b00_exponent_d00df_26 : decode cJx40b00_exponent_d00df 26 = .ok (.iload_n 1, 1) := by decide +kernel
theorem dJx40b00_exponent_d00df_27 : decode cJx40b00_exponent_d00df 27 = .ok (.invokevirtual 132, 3) := by decide +kernel
theorem dJx40b00_exponent_d00df_30 : decode cJx40b00_exponent_d00df 30 = .ok (.return_, 1) := by decide +kernel
theorem dJx40b00_exponent_d00df_31 : decode cJx40b00_exponent_d00df 31 = .ok (.iload_n 1, 1) := by decide +kernel
theorem dJx40b00_exponent_d00df_32 : decode cJx40b00_exponent_d00df 32 = .ok (.bipush 103, 2) := by decide +kernel
theorem dJx40b00_exponent_d00df_34 : decode cJx40b00_exponent_d00df 34 = .ok (.imul, 1) := by decide +kernel
theorem dJx40b00_exponent_d00df_35 : decode cJx40b00_exponent_d00df 35 = .ok (.bipush 10, 2) := by decide +kernel
theorem dJx40b00_exponent_d00df_37 : decode cJx40b00_exponent_d00df 37 = .ok (.iushr, 1) := by decide +kernel
theorem dJx40b00_exponent_d00df_38 : decode cJx40b00_exponent_d00df 38 = .ok (.istore_n 2, 1) := by decide +kernel
theorem dJx40b00_exponent_d00df_39 : decode cJx40b00_exponent_d00df 39 = .ok (.aload_n 0, 1) := by decide +kernel
theorem dJx40b00_exponent_d00df_40 : decode cJx40b00_exponent_d00df 40 = .ok (.iload_n 2, 1) := by decide +kernel
theorem dJx40b00_exponent_d00df_41 : decode cJx40b00_exponent_d00df 41 = .ok (.invokevirtual 132, 3) := by decide +kernel
theorem dJx40b00_exponent_d00df_44 : decode cJx40b00_exponent_d00df 44 = .ok (.aload_n 0, 1) := by decide +kernel
theorem dJx40b00_exponent_d00df_45 : decode cJx40b00_exponent_d00df 45 = .ok (.iload_n 1, 1) := by decide +kernel
theorem dJx40b00_exponent_d00df_46 : decode cJx40b00_exponent_d00df 46 = .ok (.bipush 10, 2) := by decide +kernel
theorem dJx40b00_exponent_d00df_48 : decode cJx40b00_exponent_d00df 48 = .ok (.iload_n 2, 1) := by decide +kernel
theorem dJx40b00_exponent_d00df_49 : decode cJx40b00_exponent_d00df 49 = .ok (.imul, 1) := by decide +kernel
theorem dJx40b00_exponent_d00df_50 : decode cJx40b00_exponent_d00df 50 = .ok (.isub, 1) := by decide +kernel
theorem dJx40b00_exponent_d00df_51 : decode cJx40b00_exponent_d00df 51 = .ok (.invokevirtual 132, 3) := by decide +kernel
theorem dJx40b00_exponent_d00df_54 : decode cJx40b00_exponent_d00df 54 = .ok (.return_, 1) := by decide +kernel
theorem dJx40b00_append_d00df_0 : decode cJx40b00_append_d00df 0 = .ok (.aload_n 0, 1) := by decide +kernel
theorem dJx40b00_append_d00df_1 : decode cJx40b00_append_d00df 1 = .ok (.getfield 11, 3) := by decide +kernel
theorem dJx40b00_append_d00df_4 : decode cJx40b00_append_d00df 4 = .ok (.aload_n 0, 1) := by decide +kernel
theorem dJx40b00_append_d00df_5 : decode cJx40b00_append_d00df 5 = .ok (.dup, 1) := by decide +kernel
theorem dJx40b00_append_d00df_6 : decode cJx40b00_append_d00df 6 = .ok (.getfield 42, 3) := by decide +kernel
theorem dJx40b00_append_d00df_9 : decode cJx40b00_append_d00df 9 = .ok (.iconst 1, 1) := by decide +kernel
theorem dJx40b00_append_d00df_10 : decode cJx40b00_append_d00df 10 = .ok (.iadd, 1) := by decide +kernel
theorem dJx40b00_append_d00df_11 : decode cJx40b00_append_d00df 11 = .ok (.dup_x1, 1) := by decide +kernel
theorem dJx40b00_append_d00df_12 : decode cJx40b00_append_d00df 12 = .ok (.putfield 42, 3) := by decide +kernel
theorem dJx40b00_append_d00df_15 : decode cJx40b00_append_d00df 15 = .ok (.iload_n 1, 1) := by decide +kernel
theorem dJx40b00_append_d00df_16 : decode cJx40b00_append_d00df 16 = .ok (.i2b, 1) := by decide +kernel
theorem dJx40b00_append_d00df_17 : decode cJx40b00_append_d00df 17 = .ok (.bastore, 1) := by decide +kernel
theorem dJx40b00_append_d00df_18 : decode cJx40b00_append_d00df 18 = .ok (.return_, 1) := by decide +kernel
theorem dJx40b00_appendDigit_d00df_0 : decode cJx40b00_appendDigit_d00df 0 = .ok (.aload_n 0, 1) := by decide +kernel
theorem dJx40b00_appendDigit_d00df_1 : decode cJx40b00_appendDigit_d00df 1 = .ok (.getfield 11, 3) := by decide +kernel
theorem dJx40b00_appendDigit_d00df_4 : decode cJx40b00_appendDigit_d00df 4 = .ok (.aload_n 0, 1) := by decide +kernel
theorem dJx40b00_appendDigit_d00df_5 : decode cJx40b00_appendDigit_d00df 5 = .ok (.dup, 1) := by decide +kernel
theorem dJx40b00_appendDigit_d00df_6 : decode cJx40b00_appendDigit_d00df 6 = .ok (.getfield 42, 3) := by decide +kernel
theorem dJx40b00_appendDigit_d00df_9 : decode cJx40b00_appendDigit_d00df 9 = .ok (.iconst 1, 1) := by decide +kernel
theorem dJx40b00_appendDigit_d00df_10 : decode cJx40b00_appendDigit_d00df 10 = .ok (.iadd, 1) := by decide +kernel
theorem dJx40b00_appendDigit_d00df_11 : decode cJx40b00_appendDigit_d00df 11 = .ok (.dup_x1, 1) := by decide +kernel
theorem dJx40b00_appendDigit_d00df_12 : decode cJx40b00_appendDigit_d00df 12 = .ok (.putfield 42, 3) := by decide +kernel
theorem dJx40b00_appendDigit_d00df_15 : decode cJx40b00_appendDigit_d00df 15 = .ok (.bipush 48, 2) := by decide +kernel
theorem dJx40b00_appendDigit_d00df_17 : decode cJx40b00_appendDigit_d00df 17 = .ok (.iload_n 1, 1) := by decide +kernel
theorem dJx40b00_appendDigit_d00df_18 : decode cJx40b00_appendDigit_d00df 18 = .ok (.iadd, 1) := by decide +kernel
theorem dJx40b00_appendDigit_d00df_19 : decode cJx40b00_appendDigit_d00df 19 = .ok (.i2b, 1) := by decide +kernel
theorem dJx40b00_appendDigit_d00df_20 : decode cJx40b00_appendDigit_d00df 20 = .ok (.bastore, 1) := by decide +kernel
theorem dJx40b00_appendDigit_d00df_21 : decode cJx40b00_appendDigit_d00df 21 = .ok (.return_, 1) := by decide +kernel
theorem dJx25f51_pow10_3e8ac_0 : decode cJx25f51_pow10_3e8ac 0 = .ok (.getstatic 14, 3) := by decide +kernel
theorem dJx25f51_pow10_3e8ac_3 : decode cJx25f51_pow10_3e8ac 3 = .ok (.iload_n 0, 1) := by decide +kernel
theorem dJx25f51_pow10_3e8ac_4 : decode cJx25f51_pow10_3e8ac 4 = .ok (.laload, 1) := by decide +kernel
theorem dJx25f51_pow10_3e8ac_5 : decode cJx25f51_pow10_3e8ac 5 = .ok (.lreturn, 1) := by decide +kernel
theorem dJx25f51_flog10pow2_0f7a4_0 : decode cJx25f51_flog10pow2_0f7a4 0 = .ok (.iload_n 0, 1) := by decide +kernel
theorem dJx25f51_flog10pow2_0f7a4_1 : decode cJx25f51_flog10pow2_0f7a4 1 = .ok (.i2l, 1) := by decide +kernel
theorem dJx25f51_flog10pow2_0f7a4_2 : decode cJx25f51_flog10pow2_0f7a4 2 = .ok (.ldc2_w 20, 3) := by decide +kernel
theorem dJx25f51_flog10pow2_0f7a4_5 : decode cJx25f51_flog10pow2_0f7a4 5 = .ok (.lmul, 1) := by decide +kernel
theorem dJx25f51_flog10pow2_0f7a4_6 : decode cJx25f51_flog10pow2_0f7a4 6 = .ok (.bipush 41, 2) := by decide +kernel
theorem dJx25f51_flog10pow2_0f7a4_8 : decode cJx25f51_flog10pow2_0f7a4 8 = .ok (.lshr, 1) := by decide +kernel
theorem dJx25f51_flog10pow2_0f7a4_9 : decode cJx25f51_flog10pow2_0f7a4 9 = .ok (.l2i, 1) := by decide +kernel
theorem dJx25f51_flog10pow2_0f7a4_10 : decode cJx25f51_flog10pow2_0f7a4 10 = .ok (.ireturn, 1) := by decide +kernel
theorem dJx25f51_flog10threeQuartersPow2_0f7a4_0 : decode cJx25f51_flog10threeQuartersPow2_0f7a4 0 = .ok (.iload_n 0, 1) := by decide +kernel
theorem dJx25f51_flog10threeQuartersPow2_0f7a4_1 : decode cJx25f51_flog10threeQuartersPow2_0f7a4 1 = .ok (.i2l, 1) := by decide +kernel
theorem dJx25f51_flog10threeQuartersPow2_0f7a4_2 : decode cJx25f51_flog10threeQuartersPow2_0f7a4 2 = .ok (.ldc2_w 20, 3) := by decide +kernel
theorem dJx25f51_flog10threeQuartersPow2_0f7a4_5 : decode cJx25f51_flog10threeQuartersPow2_0f7a4 5 = .ok (.lmul, 1) := by decide +kernel
theorem dJx25f51_flog10threeQuartersPow2_0f7a4_6 : decode cJx25f51_flog10threeQuartersPow2_0f7a4 6 = .ok (.ldc2_w 22, 3) := by decide +kernel
theorem dJx25f51_flog10threeQuartersPow2_0f7a4_9 : decode cJx25f51_flog10threeQuartersPow2_0f7a4 9 = .ok (.ladd, 1) := by decide +kernel
theorem dJx25f51_flog10threeQuartersPow2_0f7a4_10 : decode cJx25f51_flog10threeQuartersPow2_0f7a4 10 = .ok (.bipush 41, 2) := by decide +kernel
theorem dJx25f51_flog10threeQuartersPow2_0f7a4_12 : decode cJx25f51_flog10threeQuartersPow2_0f7a4 12 = .ok (.lshr, 1) := by decide +kernel
theorem dJx25f51_flog10threeQuartersPow2_0f7a4_13 : decode cJx25f51_flog10threeQuartersPow2_0f7a4 13 = .ok (.l2i, 1) := by decide +kernel
theorem dJx25f51_flog10threeQuartersPow2_0f7a4_14 : decode cJx25f51_flog10threeQuartersPow2_0f7a4 14 = .ok (.ireturn, 1) := by decide +kernel
theorem dJx25f51_flog2pow10_0f7a4_0 : decode cJx25f51_flog2pow10_0f7a4 0 = .ok (.iload_n 0, 1) := by decide +kernel
theorem dJx25f51_flog2pow10_0f7a4_1 : decode cJx25f51_flog2pow10_0f7a4 1 = .ok (.i2l, 1) := by decide +kernel
theorem dJx25f51_flog2pow10_0f7a4_2 : decode cJx25f51_flog2pow10_0f7a4 2 = .ok (.ldc2_w 24, 3) := by decide +kernel
theorem dJx25f51_flog2pow10_0f7a4_5 : decode cJx25f51_flog2pow10_0f7a4 5 = .ok (.lmul, 1) := by decide +kernel
theorem dJx25f51_flog2pow10_0f7a4_6 : decode cJx25f51_flog2pow10_0f7a4 6 = .ok (.bipush 38, 2) := by decide +kernel
theorem dJx25f51_flog2pow10_0f7a4_8 : decode cJx25f51_flog2pow10_0f7a4 8 = .ok (.lshr, 1) := by decide +kernel
theorem dJx25f51_flog2pow10_0f7a4_9 : decode cJx25f51_flog2pow10_0f7a4 9 = .ok (.l2i, 1) := by decide +kernel
theorem dJx25f51_flog2pow10_0f7a4_10 : decode cJx25f51_flog2pow10_0f7a4 10 = .ok (.ireturn, 1) := by decide +kernel
theorem dJx25f51_g1_3e8ac_0 : decode cJx25f51_g1_3e8ac 0 = .ok (.getstatic 26, 3) := by decide +kernel
theorem dJx25f51_g1_3e8ac_3 : decode cJx25f51_g1_3e8ac 3 = .ok (.iload_n 0, 1) := by decide +kernel
theorem dJx25f51_g1_3e8ac_4 : decode cJx25f51_g1_3e8ac 4 = .ok (.sipush (-324), 3) := by decide +kernel
theorem dJx25f51_g1_3e8ac_7 : decode cJx25f51_g1_3e8ac 7 = .ok (.isub, 1) := by decide +kernel
theorem dJx25f51_g1_3e8ac_8 : decode cJx25f51_g1_3e8ac 8 = .ok (.iconst 1, 1) := by decide +kernel
theorem dJx25f51_g1_3e8ac_9 : decode cJx25f51_g1_3e8ac 9 = .ok (.ishl, 1) := by decide +kernel
theorem dJx25f51_g1_3e8ac_10 : decode cJx25f51_g1_3e8ac 10 = .ok (.laload, 1) := by decide +kernel
theorem dJx25f51_g1_3e8ac_11 : decode cJx25f51_g1_3e8ac 11 = .ok (.lreturn, 1) := by decide +kernel
theorem dJ8_newLength_cabcc_0 : decode cJ8_newLength_cabcc 0 = .ok (.iload_n 0, 1) := by decide +kernel
theorem dJ8_newLength_cabcc_1 : decode cJ8_newLength_cabcc 1 = .ok (.iload_n 1, 1) := by decide +kernel
theorem dJ8_newLength_cabcc_2 : decode cJ8_newLength_cabcc 2 = .ok (.iload_n 2, 1) := by decide +kernel
theorem dJ8_newLength_cabcc_3 : decode cJ8_newLength_cabcc 3 = .ok (.invokestatic 194, 3) := by decide +kernel
theorem dJ8_newLength_cabcc_6 : decode cJ8_newLength_cabcc 6 = .ok (.iadd, 1) := by decide +kernel
theorem dJ8_newLength_cabcc_7 : decode cJ8_newLength_cabcc 7 = .ok (.istore_n 3, 1) := by decide +kernel
theorem dJ8_newLength_cabcc_8 : decode cJ8_newLength_cabcc 8 = .ok (.iconst 0, 1) := by decide +kernel
theorem dJ8_newLength_cabcc_9 : decode cJ8_newLength_cabcc 9 = .ok (.iload_n 3, 1) := by decide +kernel
theorem dJ8_newLength_cabcc_10 : decode cJ8_newLength_cabcc 10 = .ok (.if_icmp .ge 11, 3) := by decide +kernel
theorem dJ8_newLength_cabcc_13 : decode cJ8_newLength_cabcc 13 = .ok (.iload_n 3, 1) := by decide +kernel
theorem dJ8_newLength_cabcc_14 : decode cJ8_newLength_cabcc 14 = .ok (.ldc 200, 2) := by decide +kernel
theorem dJ8_newLength_cabcc_16 : decode cJ8_newLength_cabcc 16 = .ok (.if_icmp .gt 5, 3) := by decide +kernel
theorem dJ8_newLength_cabcc_19 : decode cJ8_newLength_cabcc 19 = .ok (.iload_n 3, 1) := by decide +kernel
theorem dJ8_newLength_cabcc_20 : decode cJ8_newLength_cabcc 20 = .ok (.ireturn, 1) := by decide +kernel
theorem dJ8_newLength_cabcc_21 : decode cJ8_newLength_cabcc 21 = .ok (.iload_n 0, 1) := by decide +kernel
theorem dJ8_newLength_cabcc_22 : decode cJ8_newLength_cabcc 22 = .ok (.iload_n 1, 1) := by decide +kernel
theorem dJ8_newLength_cabcc_23 : decode cJ8_newLength_cabcc 23 = .ok (.invokestatic 201, 3) := by decide +kernel
theorem dJ8_newLength_cabcc_26 : decode cJ8_newLength_cabcc 26 = .ok (.ireturn, 1) := by decide +kernel
theorem dJ8_hugeLength_7cf53_0 : decode cJ8_hugeLength_7cf53 0 = .ok (.iload_n 0, 1) := by decide +kernel
theorem dJ8_hugeLength_7cf53_1 : decode cJ8_hugeLength_7cf53 1 = .ok (.iload_n 1, 1) := by decide +kernel
theorem dJ8_hugeLength_7cf53_2 : decode cJ8_hugeLength_7cf53 2 = .ok (.iadd, 1) := by decide +kernel
theorem dJ8_hugeLength_7cf53_3 : decode cJ8_hugeLength_7cf53 3 = .ok (.istore_n 2, 1) := by decide +kernel
theorem dJ8_hugeLength_7cf53_4 : decode cJ8_hugeLength_7cf53 4 = .ok (.iload_n 2, 1) := by decide +kernel
theorem dJ8_hugeLength_7cf53_5 : decode cJ8_hugeLength_7cf53 5 = .ok (.ifCond .ge 44, 3) := by decide +kernel
theorem dJ8_hugeLength_7cf53_8 : decode cJ8_hugeLength_7cf53 8 = .ok (.new 204, 3) := by decide +kernel
theorem dJ8_hugeLength_7cf53_11 : decode cJ8_hugeLength_7cf53 11 = .ok (.dup, 1) := by decide +kernel
theorem dJ8_hugeLength_7cf53_12 : decode cJ8_hugeLength_7cf53 12 = .ok (.new 89, 3) := by decide +kernel
theorem dJ8_hugeLength_7cf53_15 : decode cJ8_hugeLength_7cf53 15 = .ok (.dup, 1) := by decide +kernel
theorem dJ8_hugeLength_7cf53_16 : decode cJ8_hugeLength_7cf53 16 = .ok (.invokespecial 91, 3) := by decide +kernel
theorem dJ8_hugeLength_7cf53_19 : decode cJ8_hugeLength_7cf53 19 = .ok (.ldc 206, 2) := by decide +kernel
theorem dJ8_hugeLength_7cf53_21 : decode cJ8_hugeLength_7cf53 21 = .ok (.invokevirtual 94, 3) := by decide +kernel
theorem dJ8_hugeLength_7cf53_24 : decode cJ8_hugeLength_7cf53 24 = .ok (.iload_n 0, 1) := by decide +kernel
theorem dJ8_hugeLength_7cf53_25 : decode cJ8_hugeLength_7cf53 25 = .ok (.invokevirtual 98, 3) := by decide +kernel
theorem dJ8_hugeLength_7cf53_28 : decode cJ8_hugeLength_7cf53 28 = .ok (.ldc 208, 2) := by decide +kernel
theorem dJ8_hugeLength_7cf53_30 : decode cJ8_hugeLength_7cf53 30 = .ok (.invokevirtual 94, 3) := by decide +kernel
theorem dJ8_hugeLength_7cf53_33 : decode cJ8_hugeLength_7cf53 33 = .ok (.iload_n 1, 1) := by decide +kernel
theorem dJ8_hugeLength_7cf53_34 : decode cJ8_hugeLength_7cf53 34 = .ok (.invokevirtual 98, 3) := by decide +kernel
theorem dJ8_hugeLength_7cf53_37 : decode cJ8_hugeLength_7cf53 37 = .ok (.ldc 210, 2) := by decide +kernel
theorem dJ8_hugeLength_7cf53_39 : decode cJ8_hugeLength_7cf53 39 = .ok (.invokevirtual 94, 3) := by decide +kernel
theorem dJ8_hugeLength_7cf53_42 : decode cJ8_hugeLength_7cf53 42 = .ok (.invokevirtual 101, 3) := by decide +kernel
theorem dJ8_hugeLength_7cf53_45 : decode cJ8_hugeLength_7cf53 45 = .ok (.invokespecial 212, 3) := by decide +kernel
theorem dJ8_hugeLength_7cf53_48 : decode cJ8_hugeLength_7cf53 48 = .ok (.athrow, 1) := by decide +kernel
theorem dJ8_hugeLength_7cf53_49 : decode cJ8_hugeLength_7cf53 49 = .ok (.iload_n 2, 1) := by decide +kernel
theorem dJ8_hugeLength_7cf53_50 : decode cJ8_hugeLength_7cf53 50 = .ok (.ldc 200, 2) := by decide +kernel
theorem dJ8_hugeLength_7cf53_52 : decode cJ8_hugeLength_7cf53 52 = .ok (.if_icmp .gt 6, 3) := by decide +kernel
theorem dJ8_hugeLength_7cf53_55 : decode cJ8_hugeLength_7cf53 55 = .ok (.ldc 200, 2) := by decide +kernel
theorem dJ8_hugeLength_7cf53_57 : decode cJ8_hugeLength_7cf53 57 = .ok (.ireturn, 1) := by decide +kernel
theorem dJ8_hugeLength_7cf53_58 : decode cJ8_hugeLength_7cf53 58 = .ok (.iload_n 2, 1) := by decide +kernel
theorem dJ8_hugeLength_7cf53_59 : decode cJ8_hugeLength_7cf53 59 = .ok (.ireturn, 1) := by decide +kernel
theorem dJ3_checkIndex_8e157_0 : decode cJ3_checkIndex_8e157 0 = .ok (.iload_n 0, 1) := by decide +kernel
theorem dJ3_checkIndex_8e157_1 : decode cJ3_checkIndex_8e157 1 = .ok (.ifCond .lt 8, 3) := by decide +kernel
theorem dJ3_checkIndex_8e157_4 : decode cJ3_checkIndex_8e157 4 = .ok (.iload_n 0, 1) := by decide +kernel
theorem dJ3_checkIndex_8e157_5 : decode cJ3_checkIndex_8e157 5 = .ok (.iload_n 1, 1) := by decide +kernel
theorem dJ3_checkIndex_8e157_6 : decode cJ3_checkIndex_8e157 6 = .ok (.if_icmp .lt 10, 3) := by decide +kernel
theorem dJ3_checkIndex_8e157_9 : decode cJ3_checkIndex_8e157 9 = .ok (.aload_n 2, 1) := by decide +kernel
theorem dJ3_checkIndex_8e157_10 : decode cJ3_checkIndex_8e157 10 = .ok (.iload_n 0, 1) := by decide +kernel
theorem dJ3_checkIndex_8e157_11 : decode cJ3_checkIndex_8e157 11 = .ok (.iload_n 1, 1) := by decide +kernel
theorem dJ3_checkIndex_8e157_12 : decode cJ3_checkIndex_8e157 12 = .ok (.invokestatic 95, 3) := by decide +kernel
theorem dJ3_checkIndex_8e157_15 : decode cJ3_checkIndex_8e157 15 = .ok (.athrow, 1) := by decide +kernel
theorem dJ3_checkIndex_8e157_16 : decode cJ3_checkIndex_8e157 16 = .ok (.iload_n 0, 1) := by decide +kernel
theorem dJ3_checkIndex_8e157_17 : decode cJ3_checkIndex_8e157 17 = .ok (.ireturn, 1) := by decide +kernel
theorem dJ3_checkFromToIndex_8c36e_0 : decode cJ3_checkFromToIndex_8c36e 0 = .ok (.iload_n 0, 1) := by decide +kernel
theorem dJ3_checkFromToIndex_8c36e_1 : decode cJ3_checkFromToIndex_8c36e 1 = .ok (.ifCond .lt 13, 3) := by decide +kernel
theorem dJ3_checkFromToIndex_8c36e_4 : decode cJ3_checkFromToIndex_8c36e 4 = .ok (.iload_n 0, 1) := by decide +kernel
theorem dJ3_checkFromToIndex_8c36e_5 : decode cJ3_checkFromToIndex_8c36e 5 = .ok (.iload_n 1, 1) := by decide +kernel
theorem dJ3_checkFromToIndex_8c36e_6 : decode cJ3_checkFromToIndex_8c36e 6 = .ok (.if_icmp .gt 8, 3) := by decide +kernel
theorem dJ3_checkFromToIndex_8c36e_9 : decode cJ3_checkFromToIndex_8c36e 9 = .ok (.iload_n 1, 1) := by decide +kernel
theorem dJ3_checkFromToIndex_8c36e_10 : decode cJ3_checkFromToIndex_8c36e 10 = .ok (.iload_n 2, 1) := by decide +kernel
theorem dJ3_checkFromToIndex_8c36e_11 : decode cJ3_checkFromToIndex_8c36e 11 = .ok (.if_icmp .le 11, 3) := by decide +kernel
theorem dJ3_checkFromToIndex_8c36e_14 : decode cJ3_checkFromToIndex_8c36e 14 = .ok (.aload_n 3, 1) := by decide +kernel
theorem dJ3_checkFromToIndex_8c36e_15 : decode cJ3_checkFromToIndex_8c36e 15 = .ok (.iload_n 0, 1) := by decide +kernel
theorem dJ3_checkFromToIndex_8c36e_16 : decode cJ3_checkFromToIndex_8c36e 16 = .ok (.iload_n 1, 1) := by decide +kernel
theorem dJ3_checkFromToIndex_8c36e_17 : decode cJ3_checkFromToIndex_8c36e 17 = .ok (.iload_n 2, 1) := by decide +kernel
theorem dJ3_checkFromToIndex_8c36e_18 : decode cJ3_checkFromToIndex_8c36e 18 = .ok (.invokestatic 99, 3) := by decide +kernel
theorem dJ3_checkFromToIndex_8c36e_21 : decode cJ3_checkFromToIndex_8c36e 21 = .ok (.athrow, 1) := by decide +kernel
theorem dJ3_checkFromToIndex_8c36e_22 : decode cJ3_checkFromToIndex_8c36e 22 = .ok (.iload_n 0, 1) := by decide +kernel
theorem dJ3_checkFromToIndex_8c36e_23 : decode cJ3_checkFromToIndex_8c36e 23 = .ok (.ireturn, 1) := by decide +kernel
theorem dJ3_checkFromIndexSize_8c36e_0 : decode cJ3_checkFromIndexSize_8c36e 0 = .ok (.iload_n 2, 1) := by decide +kernel
theorem dJ3_checkFromIndexSize_8c36e_1 : decode cJ3_checkFromIndexSize_8c36e 1 = .ok (.iload_n 0, 1) := by decide +kernel
theorem dJ3_checkFromIndexSize_8c36e_2 : decode cJ3_checkFromIndexSize_8c36e 2 = .ok (.ior, 1) := by decide +kernel
theorem dJ3_checkFromIndexSize_8c36e_3 : decode cJ3_checkFromIndexSize_8c36e 3 = .ok (.iload_n 1, 1) := by decide +kernel
theorem dJ3_checkFromIndexSize_8c36e_4 : decode cJ3_checkFromIndexSize_8c36e 4 = .ok (.ior, 1) := by decide +kernel
theorem dJ3_checkFromIndexSize_8c36e_5 : decode cJ3_checkFromIndexSize_8c36e 5 = .ok (.ifCond .lt 10, 3) := by decide +kernel
theorem dJ3_checkFromIndexSize_8c36e_8 : decode cJ3_checkFromIndexSize_8c36e 8 = .ok (.iload_n 1, 1) := by decide +kernel
theorem dJ3_checkFromIndexSize_8c36e_9 : decode cJ3_checkFromIndexSize_8c36e 9 = .ok (.iload_n 2, 1) := by decide +kernel
theorem dJ3_checkFromIndexSize_8c36e_10 : decode cJ3_checkFromIndexSize_8c36e 10 = .ok (.iload_n 0, 1) := by decide +kernel
theorem dJ3_checkFromIndexSize_8c36e_11 : decode cJ3_checkFromIndexSize_8c36e 11 = .ok (.isub, 1) := by decide +kernel
theorem dJ3_checkFromIndexSize_8c36e_12 : decode cJ3_checkFromIndexSize_8c36e 12 = .ok (.if_icmp .le 11, 3) := by decide +kernel
theorem dJ3_checkFromIndexSize_8c36e_15 : decode cJ3_checkFromIndexSize_8c36e 15 = .ok (.aload_n 3, 1) := by decide +kernel
theorem dJ3_checkFromIndexSize_8c36e_16 : decode cJ3_checkFromIndexSize_8c36e 16 = .ok (.iload_n 0, 1) := by decide +kernel
theorem dJ3_checkFromIndexSize_8c36e_17 : decode cJ3_checkFromIndexSize_8c36e 17 = .ok (.iload_n 1, 1) := by decide +kernel
theorem dJ3_checkFromIndexSize_8c36e_18 : decode cJ3_checkFromIndexSize_8c36e 18 = .ok (.iload_n 2, 1) := by decide +kernel
theorem dJ3_checkFromIndexSize_8c36e_19 : decode cJ3_checkFromIndexSize_8c36e 19 = .ok (.invokestatic 103, 3) := by decide +kernel
theorem dJ3_checkFromIndexSize_8c36e_22 : decode cJ3_checkFromIndexSize_8c36e 22 = .ok (.athrow, 1) := by decide +kernel
theorem dJ3_checkFromIndexSize_8c36e_23 : decode cJ3_checkFromIndexSize_8c36e 23 = .ok (.iload_n 0, 1) := by decide +kernel
theorem dJ3_checkFromIndexSize_8c36e_24 : decode cJ3_checkFromIndexSize_8c36e 24 = .ok (.ireturn, 1) := by decide +kernel
