theorem k_0 : Cond.selects RJx4a65c yJx4a65c_add_72be8 yJx4a65c_add_72be8 ∈ lw_all := lw_all_in (List.mem_of_getElem? (i := 0) (by decide +kernel)) rfl
theorem k_1 : Cond.selects RJx4a65c yJx4a65c_grow_d5877 yJx4a65c_grow_d5877 ∈ lw_all := lw_all_in (List.mem_of_getElem? (i := 1) (by decide +kernel)) rfl
theorem k_2 : Cond.selects RJx4a65c yJx4a65c_grow_92f84 yJx4a65c_grow_92f84 ∈ lw_all := lw_all_in (List.mem_of_getElem? (i := 2) (by decide +kernel)) rfl
theorem k_3 : Cond.selects RX8 yX8_dateShown yX8_dateShown ∈ lw_all := lw_all_in (List.mem_of_getElem? (i := 3) (by decide +kernel)) rfl
theorem k_4 : Cond.selects RX8 yX8_wholeDaysShown yX8_wholeDaysShown ∈ lw_all := lw_all_in (List.mem_of_getElem? (i := 4) (by decide +kernel)) rfl
theorem k_5 : Cond.selects RX5 yX5_slotOf yX5_slotOf ∈ lw_all := lw_all_in (List.mem_of_getElem? (i := 5) (by decide +kernel)) rfl
theorem k_6 : Cond.selects RX8 yX8_countByMinutes yX8_countByMinutes ∈ lw_all := lw_all_in (List.mem_of_getElem? (i := 6) (by decide +kernel)) rfl
theorem k_7 : Cond.selects RX8 yX8_goByMinutes yX8_goByMinutes ∈ lw_all := lw_all_in (List.mem_of_getElem? (i := 7) (by decide +kernel)) rfl
theorem k_8 : Cond.selects RX8 yX8_comeToFullMinute yX8_comeToFullMinute ∈ lw_all := lw_all_in (List.mem_of_getElem? (i := 8) (by decide +kernel)) rfl
theorem k_9 : Cond.selects RX8 yX8_strike yX8_strike ∈ lw_all := lw_all_in (List.mem_of_getElem? (i := 9) (by decide +kernel)) rfl
theorem k_10 : Cond.selects RX0 yX0_isSilent yX0_isSilent ∈ lw_all := lw_all_in (List.mem_of_getElem? (i := 10) (by decide +kernel)) rfl
theorem k_11 : Cond.selects RX0 yX0_tuneOrNull yX0_tuneOrNull ∈ lw_all := lw_all_in (List.mem_of_getElem? (i := 11) (by decide +kernel)) rfl
theorem k_12 : Cond.selects RX2 yX2_hasPin yX2_hasPin ∈ lw_all := lw_all_in (List.mem_of_getElem? (i := 12) (by decide +kernel)) rfl
theorem k_13 : Cond.selects RX8 yX8_countBySeconds yX8_countBySeconds ∈ lw_all := lw_all_in (List.mem_of_getElem? (i := 13) (by decide +kernel)) rfl
theorem k_14 : Cond.selects RX6 yX6_startWalk yX6_startWalk ∈ lw_all := lw_all_in (List.mem_of_getElem? (i := 14) (by decide +kernel)) rfl
theorem k_15 : Cond.selects RX6 yX6_walkOneBeat yX6_walkOneBeat ∈ lw_all := lw_all_in (List.mem_of_getElem? (i := 15) (by decide +kernel)) rfl
theorem k_16 : Cond.selects "java/lang/Throwable" ⟨"java/lang/Throwable", "fillInStackTrace", "(I)Ljava/lang/Throwable;"⟩ ⟨"java/lang/Throwable", "fillInStackTrace", "(I)Ljava/lang/Throwable;"⟩ ∈ lw_all := lw_all_in (List.mem_of_getElem? (i := 16) (by decide +kernel)) rfl
theorem k_17 : Cond.selects RX6 yX6_teethOf yX6_teethOf ∈ lw_all := lw_all_in (List.mem_of_getElem? (i := 17) (by decide +kernel)) rfl
theorem k_18 : Cond.selects RX8 yX8_requireWheel yX8_requireWheel ∈ lw_all := lw_all_in (List.mem_of_getElem? (i := 18) (by decide +kernel)) rfl
theorem k_19 : Cond.selects RX8 yX8_requireBeats yX8_requireBeats ∈ lw_all := lw_all_in (List.mem_of_getElem? (i := 19) (by decide +kernel)) rfl
theorem k_20 : Cond.selects RX8 yX8_requireDate yX8_requireDate ∈ lw_all := lw_all_in (List.mem_of_getElem? (i := 20) (by decide +kernel)) rfl
theorem k_21 : Cond.selects RX8 yX8_requireDrum yX8_requireDrum ∈ lw_all := lw_all_in (List.mem_of_getElem? (i := 21) (by decide +kernel)) rfl
theorem k_22 : Cond.selects RX9 yX9_fail yX9_fail ∈ lw_all := lw_all_in (List.mem_of_getElem? (i := 22) (by decide +kernel)) rfl
theorem k_23 : Cond.selects RX9 yX9_movedAt yX9_movedAt ∈ lw_all := lw_all_in (List.mem_of_getElem? (i := 23) (by decide +kernel)) rfl
theorem k_24 : Cond.selects RX9 yX9_noWheel yX9_noWheel ∈ lw_all := lw_all_in (List.mem_of_getElem? (i := 24) (by decide +kernel)) rfl
theorem k_25 : Cond.selects RX9 yX9_seconds yX9_seconds ∈ lw_all := lw_all_in (List.mem_of_getElem? (i := 25) (by decide +kernel)) rfl
theorem k_26 : Cond.selects RX9 yX9_goes yX9_goes ∈ lw_all := lw_all_in (List.mem_of_getElem? (i := 26) (by decide +kernel)) rfl
theorem k_27 : Cond.selects RX9 yX9_strikes yX9_strikes ∈ lw_all := lw_all_in (List.mem_of_getElem? (i := 27) (by decide +kernel)) rfl
theorem k_28 : Cond.selects RX9 yX9_isSilent yX9_isSilent ∈ lw_all := lw_all_in (List.mem_of_getElem? (i := 28) (by decide +kernel)) rfl
theorem k_29 : Cond.selects RX9 yX9_rings yX9_rings ∈ lw_all := lw_all_in (List.mem_of_getElem? (i := 29) (by decide +kernel)) rfl
theorem k_30 : Cond.selects RX9 yX9_plays yX9_plays ∈ lw_all := lw_all_in (List.mem_of_getElem? (i := 30) (by decide +kernel)) rfl
theorem k_31 : Cond.selects RX9 yX9_today yX9_today ∈ lw_all := lw_all_in (List.mem_of_getElem? (i := 31) (by decide +kernel)) rfl
theorem k_32 : Cond.selects RX9 yX9_noDrum yX9_noDrum ∈ lw_all := lw_all_in (List.mem_of_getElem? (i := 32) (by decide +kernel)) rfl
theorem k_33 : Cond.selects RX9 yX9_kept yX9_kept ∈ lw_all := lw_all_in (List.mem_of_getElem? (i := 33) (by decide +kernel)) rfl
theorem k_34 : Cond.initialized RL ∈ lw_all := lw_all_in (List.mem_of_getElem? (i := 34) (by decide +kernel)) rfl
theorem k_35 : Cond.initialized RX8 ∈ lw_all := lw_all_in (List.mem_of_getElem? (i := 35) (by decide +kernel)) rfl
theorem k_36 : Cond.initialized RX6 ∈ lw_all := lw_all_in (List.mem_of_getElem? (i := 36) (by decide +kernel)) rfl
theorem k_37 : Cond.initialized RJxa1e45 ∈ lw_all := lw_all_in (List.mem_of_getElem? (i := 37) (by decide +kernel)) rfl
theorem k_38 : Cond.initialized RJxc12de ∈ lw_all := lw_all_in (List.mem_of_getElem? (i := 38) (by decide +kernel)) rfl
theorem k_39 : Cond.initialized RJx4a65c ∈ lw_all := lw_all_in (List.mem_of_getElem? (i := 39) (by decide +kernel)) rfl
theorem k_40 : Cond.initialized RX7 ∈ lw_all := lw_all_in (List.mem_of_getElem? (i := 40) (by decide +kernel)) rfl
theorem k_41 : Cond.initialized RJ8 ∈ lw_all := lw_all_in (List.mem_of_getElem? (i := 41) (by decide +kernel)) rfl
theorem k_42 : Cond.initialized RJ9 ∈ lw_all := lw_all_in (List.mem_of_getElem? (i := 42) (by decide +kernel)) rfl
theorem k_43 : Cond.initialized RJ7 ∈ lw_all := lw_all_in (List.mem_of_getElem? (i := 43) (by decide +kernel)) rfl
theorem k_44 : Cond.initialized RJ10 ∈ lw_all := lw_all_in (List.mem_of_getElem? (i := 44) (by decide +kernel)) rfl
theorem k_45 : Cond.initialized RX4 ∈ lw_all := lw_all_in (List.mem_of_getElem? (i := 45) (by decide +kernel)) rfl
theorem k_46 : Cond.initialized RX3 ∈ lw_all := lw_all_in (List.mem_of_getElem? (i := 46) (by decide +kernel)) rfl
theorem k_47 : Cond.initialized RX0 ∈ lw_all := lw_all_in (List.mem_of_getElem? (i := 47) (by decide +kernel)) rfl
theorem k_48 : Cond.initialized RX5 ∈ lw_all := lw_all_in (List.mem_of_getElem? (i := 48) (by decide +kernel)) rfl
theorem k_49 : Cond.initialized RX1 ∈ lw_all := lw_all_in (List.mem_of_getElem? (i := 49) (by decide +kernel)) rfl
theorem k_50 : Cond.initialized RX9 ∈ lw_all := lw_all_in (List.mem_of_getElem? (i := 50) (by decide +kernel)) rfl
theorem k_51 : Cond.initialized "java/lang/Throwable" ∈ lw_all := lw_all_in (List.mem_of_getElem? (i := 51) (by decide +kernel)) rfl
theorem k_52 : Cond.initialized "java/lang/Exception" ∈ lw_all := lw_all_in (List.mem_of_getElem? (i := 52) (by decide +kernel)) rfl
theorem k_53 : Cond.initialized "java/lang/RuntimeException" ∈ lw_all := lw_all_in (List.mem_of_getElem? (i := 53) (by decide +kernel)) rfl
theorem k_54 : Cond.initialized "java/lang/IllegalArgumentException" ∈ lw_all := lw_all_in (List.mem_of_getElem? (i := 54) (by decide +kernel)) rfl
theorem k_55 : Cond.initialized "java/lang/IllegalStateException" ∈ lw_all := lw_all_in (List.mem_of_getElem? (i := 55) (by decide +kernel)) rfl
theorem k_56 : Cond.initialized RJ15 ∈ lw_all := lw_all_in (List.mem_of_getElem? (i := 56) (by decide +kernel)) rfl
theorem k_57 : Cond.initialized RJ3 ∈ lw_all := lw_all_in (List.mem_of_getElem? (i := 57) (by decide +kernel)) rfl
theorem k_58 : Cond.initialized "java/lang/IndexOutOfBoundsException" ∈ lw_all := lw_all_in (List.mem_of_getElem? (i := 58) (by decide +kernel)) rfl
theorem k_59 : Cond.initialized RJx00060 ∈ lw_all := lw_all_in (List.mem_of_getElem? (i := 59) (by decide +kernel)) rfl
theorem k_60 : Cond.initialized RJ0 ∈ lw_all := lw_all_in (List.mem_of_getElem? (i := 60) (by decide +kernel)) rfl
theorem k_61 : Cond.initialized RX2 ∈ lw_all := lw_all_in (List.mem_of_getElem? (i := 61) (by decide +kernel)) rfl
theorem k_62 : Cond.initialized RJ6 ∈ lw_all := lw_all_in (List.mem_of_getElem? (i := 62) (by decide +kernel)) rfl
theorem k_63 : Cond.initialized "java/util/NoSuchElementException" ∈ lw_all := lw_all_in (List.mem_of_getElem? (i := 63) (by decide +kernel)) rfl
theorem k_64 : Cond.initialized "java/lang/ArithmeticException" ∈ lw_all := lw_all_in (List.mem_of_getElem? (i := 64) (by decide +kernel)) rfl
theorem k_65 : Cond.classLink RL 8 RX8 ∈ lw_all := lw_all_in (List.mem_of_getElem? (i := 65) (by decide +kernel)) rfl
theorem k_66 : Cond.instantiable RX8 9 ∈ lw_all := lw_all_in (List.mem_of_getElem? (i := 66) (by decide +kernel)) rfl
theorem k_67 : Cond.methodLink RL 106 yX8_init ∈ lw_all := lw_all_in (List.mem_of_getElem? (i := 67) (by decide +kernel)) rfl
theorem k_68 : Cond.instanceMethod yX8_init ∈ lw_all := lw_all_in (List.mem_of_getElem? (i := 68) (by decide +kernel)) rfl
theorem k_69 : Cond.code yX8_init cX8_init 1 none ∈ lw_all := lw_all_in (List.mem_of_getElem? (i := 69) (by decide +kernel)) rfl
theorem k_70 : Cond.methodLink RX8 1 objectInit ∈ lw_all := lw_all_in (List.mem_of_getElem? (i := 70) (by decide +kernel)) rfl
theorem k_71 : Cond.instanceMethod objectInit ∈ lw_all := lw_all_in (List.mem_of_getElem? (i := 71) (by decide +kernel)) rfl
theorem k_72 : Cond.code objectInit ⟨#[0xb1]⟩ 1 none ∈ lw_all := lw_all_in (List.mem_of_getElem? (i := 72) (by decide +kernel)) rfl
theorem k_73 : Cond.classLink RX8 7 RX6 ∈ lw_all := lw_all_in (List.mem_of_getElem? (i := 73) (by decide +kernel)) rfl
theorem k_74 : Cond.instantiable RX6 1 ∈ lw_all := lw_all_in (List.mem_of_getElem? (i := 74) (by decide +kernel)) rfl
theorem k_75 : Cond.methodLink RX8 9 yX6_init ∈ lw_all := lw_all_in (List.mem_of_getElem? (i := 75) (by decide +kernel)) rfl
theorem k_76 : Cond.instanceMethod yX6_init ∈ lw_all := lw_all_in (List.mem_of_getElem? (i := 76) (by decide +kernel)) rfl
theorem k_77 : Cond.code yX6_init cX6_init 1 none ∈ lw_all := lw_all_in (List.mem_of_getElem? (i := 77) (by decide +kernel)) rfl
theorem k_78 : Cond.methodLink RX6 1 objectInit ∈ lw_all := lw_all_in (List.mem_of_getElem? (i := 78) (by decide +kernel)) rfl
theorem k_79 : Cond.classLink RX6 7 RJx4a65c ∈ lw_all := lw_all_in (List.mem_of_getElem? (i := 79) (by decide +kernel)) rfl
theorem k_80 : Cond.instantiable RJx4a65c 3 ∈ lw_all := lw_all_in (List.mem_of_getElem? (i := 80) (by decide +kernel)) rfl
theorem k_81 : Cond.methodLink RX6 9 yJx4a65c_init_da8c8 ∈ lw_all := lw_all_in (List.mem_of_getElem? (i := 81) (by decide +kernel)) rfl
theorem k_82 : Cond.instanceMethod yJx4a65c_init_da8c8 ∈ lw_all := lw_all_in (List.mem_of_getElem? (i := 82) (by decide +kernel)) rfl
theorem k_83 : Cond.code yJx4a65c_init_da8c8 cJx4a65c_init_da8c8 1 none ∈ lw_all := lw_all_in (List.mem_of_getElem? (i := 83) (by decide +kernel)) rfl
theorem k_84 : Cond.methodLink RJx4a65c 1 yJxc12de_init_da8c8 ∈ lw_all := lw_all_in (List.mem_of_getElem? (i := 84) (by decide +kernel)) rfl
theorem k_85 : Cond.instanceMethod yJxc12de_init_da8c8 ∈ lw_all := lw_all_in (List.mem_of_getElem? (i := 85) (by decide +kernel)) rfl
theorem k_86 : Cond.code yJxc12de_init_da8c8 cJxc12de_init_da8c8 1 none ∈ lw_all := lw_all_in (List.mem_of_getElem? (i := 86) (by decide +kernel)) rfl
theorem k_87 : Cond.methodLink RJxc12de 1 yJxa1e45_init_da8c8 ∈ lw_all := lw_all_in (List.mem_of_getElem? (i := 87) (by decide +kernel)) rfl
theorem k_88 : Cond.instanceMethod yJxa1e45_init_da8c8 ∈ lw_all := lw_all_in (List.mem_of_getElem? (i := 88) (by decide +kernel)) rfl
theorem k_89 : Cond.code yJxa1e45_init_da8c8 cJxa1e45_init_da8c8 1 none ∈ lw_all := lw_all_in (List.mem_of_getElem? (i := 89) (by decide +kernel)) rfl
theorem k_90 : Cond.methodLink RJxa1e45 1 objectInit ∈ lw_all := lw_all_in (List.mem_of_getElem? (i := 90) (by decide +kernel)) rfl
theorem k_91 : Cond.fieldLink RJx4a65c 39 "java/util/ArrayList" "DEFAULTCAPACITY_EMPTY_ELEMENTDATA" "[Ljava/lang/Object;" ∈ lw_all := lw_all_in (List.mem_of_getElem? (i := 91) (by decide +kernel)) rfl
theorem k_93 : Cond.fieldLink RJx4a65c 9 "java/util/ArrayList" "elementData" "[Ljava/lang/Object;" ∈ lw_all := lw_all_in (List.mem_of_getElem? (i := 93) (by decide +kernel)) rfl
theorem k_94 : Cond.fieldLink RJx4a65c 48 "java/util/ArrayList" "size" "I" ∈ lw_all := lw_all_in (List.mem_of_getElem? (i := 94) (by decide +kernel)) rfl
theorem k_95 : Cond.fieldLink RJxc12de 7 "java/util/AbstractList" "modCount" "I" ∈ lw_all := lw_all_in (List.mem_of_getElem? (i := 95) (by decide +kernel)) rfl
theorem k_96 : Cond.fieldLink RJx4a65c 63 "java/util/ArrayList" "modCount" "I" ∈ lw_all := lw_all_in (List.mem_of_getElem? (i := 96) (by decide +kernel)) rfl
theorem k_97 : Cond.sameField "java/util/ArrayList" "java/util/AbstractList" "modCount" "I" ∈ lw_all := lw_all_in (List.mem_of_getElem? (i := 97) (by decide +kernel)) rfl
theorem k_98 : Cond.lays RJx4a65c "java/util/ArrayList" "elementData" "[Ljava/lang/Object;" ∈ lw_all := lw_all_in (List.mem_of_getElem? (i := 98) (by decide +kernel)) rfl
theorem k_100 : Cond.lays RJx4a65c "java/util/ArrayList" "size" "I" ∈ lw_all := lw_all_in (List.mem_of_getElem? (i := 100) (by decide +kernel)) rfl
theorem k_102 : Cond.lays RJx4a65c "java/util/AbstractList" "modCount" "I" ∈ lw_all := lw_all_in (List.mem_of_getElem? (i := 102) (by decide +kernel)) rfl
theorem k_105 : Cond.classLink RX6 16 RX7 ∈ lw_all := lw_all_in (List.mem_of_getElem? (i := 105) (by decide +kernel)) rfl
theorem k_106 : Cond.instantiable RX7 5 ∈ lw_all := lw_all_in (List.mem_of_getElem? (i := 106) (by decide +kernel)) rfl
theorem k_107 : Cond.methodLink RX6 18 yX7_init ∈ lw_all := lw_all_in (List.mem_of_getElem? (i := 107) (by decide +kernel)) rfl
theorem k_108 : Cond.instanceMethod yX7_init ∈ lw_all := lw_all_in (List.mem_of_getElem? (i := 108) (by decide +kernel)) rfl
theorem k_109 : Cond.code yX7_init cX7_init 6 none ∈ lw_all := lw_all_in (List.mem_of_getElem? (i := 109) (by decide +kernel)) rfl
theorem k_110 : Cond.methodLink RX7 1 objectInit ∈ lw_all := lw_all_in (List.mem_of_getElem? (i := 110) (by decide +kernel)) rfl
theorem k_111 : Cond.fieldLink RX7 7 "MinsterClock$Wheel" "teeth" "I" ∈ lw_all := lw_all_in (List.mem_of_getElem? (i := 111) (by decide +kernel)) rfl
theorem k_112 : Cond.fieldLink RX7 13 "MinsterClock$Wheel" "leaves" "I" ∈ lw_all := lw_all_in (List.mem_of_getElem? (i := 112) (by decide +kernel)) rfl
theorem k_113 : Cond.fieldLink RX7 16 "MinsterClock$Wheel" "teethBefore" "I" ∈ lw_all := lw_all_in (List.mem_of_getElem? (i := 113) (by decide +kernel)) rfl
theorem k_114 : Cond.fieldLink RX7 19 "MinsterClock$Wheel" "movedBeforeAtStart" "J" ∈ lw_all := lw_all_in (List.mem_of_getElem? (i := 114) (by decide +kernel)) rfl
theorem k_115 : Cond.fieldLink RX7 33 "MinsterClock$Wheel" "walkRest" "J" ∈ lw_all := lw_all_in (List.mem_of_getElem? (i := 115) (by decide +kernel)) rfl
theorem k_116 : Cond.laysFinal RX7 "MinsterClock$Wheel" "teeth" "I" ∈ lw_all := lw_all_in (List.mem_of_getElem? (i := 116) (by decide +kernel)) rfl
theorem k_118 : Cond.laysFinal RX7 "MinsterClock$Wheel" "leaves" "I" ∈ lw_all := lw_all_in (List.mem_of_getElem? (i := 118) (by decide +kernel)) rfl
theorem k_120 : Cond.laysFinal RX7 "MinsterClock$Wheel" "teethBefore" "I" ∈ lw_all := lw_all_in (List.mem_of_getElem? (i := 120) (by decide +kernel)) rfl
theorem k_122 : Cond.laysFinal RX7 "MinsterClock$Wheel" "movedBeforeAtStart" "J" ∈ lw_all := lw_all_in (List.mem_of_getElem? (i := 122) (by decide +kernel)) rfl
theorem k_124 : Cond.lays RX7 "MinsterClock$Wheel" "walkRest" "J" ∈ lw_all := lw_all_in (List.mem_of_getElem? (i := 124) (by decide +kernel)) rfl
theorem k_127 : Cond.methodLink RX6 21 yJx4a65c_add_9ea2d ∈ lw_all := lw_all_in (List.mem_of_getElem? (i := 127) (by decide +kernel)) rfl
theorem k_128 : Cond.instanceMethod yJx4a65c_add_9ea2d ∈ lw_all := lw_all_in (List.mem_of_getElem? (i := 128) (by decide +kernel)) rfl
theorem k_129 : Cond.selects RJx4a65c yJx4a65c_add_9ea2d yJx4a65c_add_9ea2d ∈ lw_all := lw_all_in (List.mem_of_getElem? (i := 129) (by decide +kernel)) rfl
theorem k_130 : Cond.code yJx4a65c_add_9ea2d cJx4a65c_add_9ea2d 2 (some .boolean) ∈ lw_all := lw_all_in (List.mem_of_getElem? (i := 130) (by decide +kernel)) rfl
theorem k_131 : Cond.methodLink RJx4a65c 131 yJx4a65c_add_72be8 ∈ lw_all := lw_all_in (List.mem_of_getElem? (i := 131) (by decide +kernel)) rfl
theorem k_133 : Cond.instanceMethod yJx4a65c_add_72be8 ∈ lw_all := lw_all_in (List.mem_of_getElem? (i := 133) (by decide +kernel)) rfl
theorem k_134 : Cond.code yJx4a65c_add_72be8 cJx4a65c_add_72be8 4 none ∈ lw_all := lw_all_in (List.mem_of_getElem? (i := 134) (by decide +kernel)) rfl
theorem k_135 : Cond.methodLink RJx4a65c 129 yJx4a65c_grow_d5877 ∈ lw_all := lw_all_in (List.mem_of_getElem? (i := 135) (by decide +kernel)) rfl
theorem k_137 : Cond.instanceMethod yJx4a65c_grow_d5877 ∈ lw_all := lw_all_in (List.mem_of_getElem? (i := 137) (by decide +kernel)) rfl
theorem k_138 : Cond.code yJx4a65c_grow_d5877 cJx4a65c_grow_d5877 1 (some (.array (.object "java/lang/Object"))) ∈ lw_all := lw_all_in (List.mem_of_getElem? (i := 138) (by decide +kernel)) rfl
theorem k_139 : Cond.methodLink RJx4a65c 69 yJx4a65c_grow_92f84 ∈ lw_all := lw_all_in (List.mem_of_getElem? (i := 139) (by decide +kernel)) rfl
theorem k_141 : Cond.instanceMethod yJx4a65c_grow_92f84 ∈ lw_all := lw_all_in (List.mem_of_getElem? (i := 141) (by decide +kernel)) rfl
theorem k_142 : Cond.code yJx4a65c_grow_92f84 cJx4a65c_grow_92f84 4 (some (.array (.object "java/lang/Object"))) ∈ lw_all := lw_all_in (List.mem_of_getElem? (i := 142) (by decide +kernel)) rfl
theorem k_143 : Cond.methodLink RJx4a65c 73 yJ8_newLength_cabcc ∈ lw_all := lw_all_in (List.mem_of_getElem? (i := 143) (by decide +kernel)) rfl
theorem k_144 : Cond.static yJ8_newLength_cabcc ∈ lw_all := lw_all_in (List.mem_of_getElem? (i := 144) (by decide +kernel)) rfl
theorem k_145 : Cond.code yJ8_newLength_cabcc cJ8_newLength_cabcc 4 (some .int) ∈ lw_all := lw_all_in (List.mem_of_getElem? (i := 145) (by decide +kernel)) rfl
theorem k_146 : Cond.methodLink RJ8 194 Lib.Math.max.name ∈ lw_all := lw_all_in (List.mem_of_getElem? (i := 146) (by decide +kernel)) rfl
theorem k_147 : Cond.static Lib.Math.max.name ∈ lw_all := lw_all_in (List.mem_of_getElem? (i := 147) (by decide +kernel)) rfl
theorem k_148 : Cond.code Lib.Math.max.name Lib.Math.max.code 2 (some .int) ∈ lw_all := lw_all_in (List.mem_of_getElem? (i := 148) (by decide +kernel)) rfl
theorem k_149 : Cond.constant RJ8 200 (2147483639) ∈ lw_all := lw_all_in (List.mem_of_getElem? (i := 149) (by decide +kernel)) rfl
theorem k_150 : Cond.methodLink RJ8 201 yJ8_hugeLength_7cf53 ∈ lw_all := lw_all_in (List.mem_of_getElem? (i := 150) (by decide +kernel)) rfl
theorem k_151 : Cond.static yJ8_hugeLength_7cf53 ∈ lw_all := lw_all_in (List.mem_of_getElem? (i := 151) (by decide +kernel)) rfl
theorem k_152 : Cond.code yJ8_hugeLength_7cf53 cJ8_hugeLength_7cf53 3 (some .int) ∈ lw_all := lw_all_in (List.mem_of_getElem? (i := 152) (by decide +kernel)) rfl
theorem k_153 : Cond.methodLink RJx4a65c 66 yJ7_copyOf_1904c ∈ lw_all := lw_all_in (List.mem_of_getElem? (i := 153) (by decide +kernel)) rfl
theorem k_154 : Cond.static yJ7_copyOf_1904c ∈ lw_all := lw_all_in (List.mem_of_getElem? (i := 154) (by decide +kernel)) rfl
theorem k_155 : Cond.code yJ7_copyOf_1904c cJ7_copyOf_1904c 2 (some (.array (.object "java/lang/Object"))) ∈ lw_all := lw_all_in (List.mem_of_getElem? (i := 155) (by decide +kernel)) rfl
theorem k_156 : Cond.methodLink RJ7 86 ⟨"java/lang/Object", "getClass", "()Ljava/lang/Class;"⟩ ∈ lw_all := lw_all_in (List.mem_of_getElem? (i := 156) (by decide +kernel)) rfl
theorem k_157 : Cond.instanceMethod ⟨"java/lang/Object", "getClass", "()Ljava/lang/Class;"⟩ ∈ lw_all := lw_all_in (List.mem_of_getElem? (i := 157) (by decide +kernel)) rfl
theorem k_158 : Cond.sameMethod "java/lang/Object" "java/lang/Object" "getClass" "()Ljava/lang/Class;" ∈ lw_all := lw_all_in (List.mem_of_getElem? (i := 158) (by decide +kernel)) rfl
theorem k_159 : Cond.selects RX8 ⟨"java/lang/Object", "getClass", "()Ljava/lang/Class;"⟩ ⟨"java/lang/Object", "getClass", "()Ljava/lang/Class;"⟩ ∈ lw_all := lw_all_in (List.mem_of_getElem? (i := 159) (by decide +kernel)) rfl
theorem k_160 : Cond.selects RX0 ⟨"java/lang/Object", "getClass", "()Ljava/lang/Class;"⟩ ⟨"java/lang/Object", "getClass", "()Ljava/lang/Class;"⟩ ∈ lw_all := lw_all_in (List.mem_of_getElem? (i := 160) (by decide +kernel)) rfl
theorem k_161 : Cond.selects RX2 ⟨"java/lang/Object", "getClass", "()Ljava/lang/Class;"⟩ ⟨"java/lang/Object", "getClass", "()Ljava/lang/Class;"⟩ ∈ lw_all := lw_all_in (List.mem_of_getElem? (i := 161) (by decide +kernel)) rfl
theorem k_162 : Cond.selects RX3 ⟨"java/lang/Object", "getClass", "()Ljava/lang/Class;"⟩ ⟨"java/lang/Object", "getClass", "()Ljava/lang/Class;"⟩ ∈ lw_all := lw_all_in (List.mem_of_getElem? (i := 162) (by decide +kernel)) rfl
theorem k_163 : Cond.selects RX4 ⟨"java/lang/Object", "getClass", "()Ljava/lang/Class;"⟩ ⟨"java/lang/Object", "getClass", "()Ljava/lang/Class;"⟩ ∈ lw_all := lw_all_in (List.mem_of_getElem? (i := 163) (by decide +kernel)) rfl
theorem k_164 : Cond.selects RX5 ⟨"java/lang/Object", "getClass", "()Ljava/lang/Class;"⟩ ⟨"java/lang/Object", "getClass", "()Ljava/lang/Class;"⟩ ∈ lw_all := lw_all_in (List.mem_of_getElem? (i := 164) (by decide +kernel)) rfl
theorem k_165 : Cond.selects RX6 ⟨"java/lang/Object", "getClass", "()Ljava/lang/Class;"⟩ ⟨"java/lang/Object", "getClass", "()Ljava/lang/Class;"⟩ ∈ lw_all := lw_all_in (List.mem_of_getElem? (i := 165) (by decide +kernel)) rfl
theorem k_166 : Cond.selects RX7 ⟨"java/lang/Object", "getClass", "()Ljava/lang/Class;"⟩ ⟨"java/lang/Object", "getClass", "()Ljava/lang/Class;"⟩ ∈ lw_all := lw_all_in (List.mem_of_getElem? (i := 166) (by decide +kernel)) rfl
theorem k_167 : Cond.selects RX9 ⟨"java/lang/Object", "getClass", "()Ljava/lang/Class;"⟩ ⟨"java/lang/Object", "getClass", "()Ljava/lang/Class;"⟩ ∈ lw_all := lw_all_in (List.mem_of_getElem? (i := 167) (by decide +kernel)) rfl
theorem k_168 : Cond.selects "java/lang/ArithmeticException" ⟨"java/lang/Object", "getClass", "()Ljava/lang/Class;"⟩ ⟨"java/lang/Object", "getClass", "()Ljava/lang/Class;"⟩ ∈ lw_all := lw_all_in (List.mem_of_getElem? (i := 168) (by decide +kernel)) rfl
theorem k_169 : Cond.selects RJx00060 ⟨"java/lang/Object", "getClass", "()Ljava/lang/Class;"⟩ ⟨"java/lang/Object", "getClass", "()Ljava/lang/Class;"⟩ ∈ lw_all := lw_all_in (List.mem_of_getElem? (i := 169) (by decide +kernel)) rfl
theorem k_170 : Cond.selects "java/lang/IllegalArgumentException" ⟨"java/lang/Object", "getClass", "()Ljava/lang/Class;"⟩ ⟨"java/lang/Object", "getClass", "()Ljava/lang/Class;"⟩ ∈ lw_all := lw_all_in (List.mem_of_getElem? (i := 170) (by decide +kernel)) rfl
theorem k_171 : Cond.selects "java/lang/IllegalStateException" ⟨"java/lang/Object", "getClass", "()Ljava/lang/Class;"⟩ ⟨"java/lang/Object", "getClass", "()Ljava/lang/Class;"⟩ ∈ lw_all := lw_all_in (List.mem_of_getElem? (i := 171) (by decide +kernel)) rfl
theorem k_172 : Cond.selects "java/lang/IndexOutOfBoundsException" ⟨"java/lang/Object", "getClass", "()Ljava/lang/Class;"⟩ ⟨"java/lang/Object", "getClass", "()Ljava/lang/Class;"⟩ ∈ lw_all := lw_all_in (List.mem_of_getElem? (i := 172) (by decide +kernel)) rfl
theorem k_173 : Cond.selects RJx4a65c ⟨"java/lang/Object", "getClass", "()Ljava/lang/Class;"⟩ ⟨"java/lang/Object", "getClass", "()Ljava/lang/Class;"⟩ ∈ lw_all := lw_all_in (List.mem_of_getElem? (i := 173) (by decide +kernel)) rfl
theorem k_174 : Cond.selects "java/util/NoSuchElementException" ⟨"java/lang/Object", "getClass", "()Ljava/lang/Class;"⟩ ⟨"java/lang/Object", "getClass", "()Ljava/lang/Class;"⟩ ∈ lw_all := lw_all_in (List.mem_of_getElem? (i := 174) (by decide +kernel)) rfl
theorem k_175 : Cond.native ⟨"java/lang/Object", "getClass", "()Ljava/lang/Class;"⟩ ∈ lw_all := lw_all_in (List.mem_of_getElem? (i := 175) (by decide +kernel)) rfl
theorem k_176 : Cond.methodLink RJ7 300 yJ7_copyOf_6403c ∈ lw_all := lw_all_in (List.mem_of_getElem? (i := 176) (by decide +kernel)) rfl
theorem k_177 : Cond.static yJ7_copyOf_6403c ∈ lw_all := lw_all_in (List.mem_of_getElem? (i := 177) (by decide +kernel)) rfl
theorem k_178 : Cond.code yJ7_copyOf_6403c cJ7_copyOf_6403c 4 (some (.array (.object "java/lang/Object"))) ∈ lw_all := lw_all_in (List.mem_of_getElem? (i := 178) (by decide +kernel)) rfl
theorem k_179 : Cond.classLink RJ7 110 "[Ljava/lang/Object;" ∈ lw_all := lw_all_in (List.mem_of_getElem? (i := 179) (by decide +kernel)) rfl
theorem k_181 : Cond.classLink RJ7 2 "java/lang/Object" ∈ lw_all := lw_all_in (List.mem_of_getElem? (i := 181) (by decide +kernel)) rfl
theorem k_182 : Cond.methodLink RJ7 304 Lib.Math.min.name ∈ lw_all := lw_all_in (List.mem_of_getElem? (i := 182) (by decide +kernel)) rfl
theorem k_183 : Cond.static Lib.Math.min.name ∈ lw_all := lw_all_in (List.mem_of_getElem? (i := 183) (by decide +kernel)) rfl
theorem k_184 : Cond.code Lib.Math.min.name Lib.Math.min.code 2 (some .int) ∈ lw_all := lw_all_in (List.mem_of_getElem? (i := 184) (by decide +kernel)) rfl
theorem k_185 : Cond.methodLink RJ7 150 arraycopyName ∈ lw_all := lw_all_in (List.mem_of_getElem? (i := 185) (by decide +kernel)) rfl
theorem k_186 : Cond.static arraycopyName ∈ lw_all := lw_all_in (List.mem_of_getElem? (i := 186) (by decide +kernel)) rfl
theorem k_187 : Cond.native arraycopyName ∈ lw_all := lw_all_in (List.mem_of_getElem? (i := 187) (by decide +kernel)) rfl
theorem k_188 : Cond.methodLink RJx4a65c 79 Lib.Math.max.name ∈ lw_all := lw_all_in (List.mem_of_getElem? (i := 188) (by decide +kernel)) rfl
theorem k_189 : Cond.classLink RJx4a65c 7 "java/lang/Object" ∈ lw_all := lw_all_in (List.mem_of_getElem? (i := 189) (by decide +kernel)) rfl
theorem k_190 : Cond.fieldLink RX6 10 "MinsterClock$Train" "wheels" "Ljava/util/ArrayList;" ∈ lw_all := lw_all_in (List.mem_of_getElem? (i := 190) (by decide +kernel)) rfl
theorem k_191 : Cond.laysFinal RX6 "MinsterClock$Train" "wheels" "Ljava/util/ArrayList;" ∈ lw_all := lw_all_in (List.mem_of_getElem? (i := 191) (by decide +kernel)) rfl
theorem k_194 : Cond.classLink RX8 16 RX4 ∈ lw_all := lw_all_in (List.mem_of_getElem? (i := 194) (by decide +kernel)) rfl
theorem k_195 : Cond.instantiable RX4 3 ∈ lw_all := lw_all_in (List.mem_of_getElem? (i := 195) (by decide +kernel)) rfl
theorem k_196 : Cond.methodLink RX8 18 yX4_init ∈ lw_all := lw_all_in (List.mem_of_getElem? (i := 196) (by decide +kernel)) rfl
theorem k_197 : Cond.instanceMethod yX4_init ∈ lw_all := lw_all_in (List.mem_of_getElem? (i := 197) (by decide +kernel)) rfl
theorem k_198 : Cond.code yX4_init cX4_init 1 none ∈ lw_all := lw_all_in (List.mem_of_getElem? (i := 198) (by decide +kernel)) rfl
theorem k_199 : Cond.methodLink RX4 1 objectInit ∈ lw_all := lw_all_in (List.mem_of_getElem? (i := 199) (by decide +kernel)) rfl
theorem k_200 : Cond.fieldLink RX4 7 "MinsterClock$Pace" "numerator" "I" ∈ lw_all := lw_all_in (List.mem_of_getElem? (i := 200) (by decide +kernel)) rfl
theorem k_201 : Cond.fieldLink RX4 13 "MinsterClock$Pace" "denominator" "I" ∈ lw_all := lw_all_in (List.mem_of_getElem? (i := 201) (by decide +kernel)) rfl
theorem k_202 : Cond.fieldLink RX4 16 "MinsterClock$Pace" "rest" "I" ∈ lw_all := lw_all_in (List.mem_of_getElem? (i := 202) (by decide +kernel)) rfl
theorem k_203 : Cond.lays RX4 "MinsterClock$Pace" "numerator" "I" ∈ lw_all := lw_all_in (List.mem_of_getElem? (i := 203) (by decide +kernel)) rfl
theorem k_205 : Cond.lays RX4 "MinsterClock$Pace" "denominator" "I" ∈ lw_all := lw_all_in (List.mem_of_getElem? (i := 205) (by decide +kernel)) rfl
theorem k_207 : Cond.lays RX4 "MinsterClock$Pace" "rest" "I" ∈ lw_all := lw_all_in (List.mem_of_getElem? (i := 207) (by decide +kernel)) rfl
theorem k_210 : Cond.classLink RX8 23 RX3 ∈ lw_all := lw_all_in (List.mem_of_getElem? (i := 210) (by decide +kernel)) rfl
theorem k_211 : Cond.instantiable RX3 4 ∈ lw_all := lw_all_in (List.mem_of_getElem? (i := 211) (by decide +kernel)) rfl
theorem k_212 : Cond.methodLink RX8 25 yX3_init ∈ lw_all := lw_all_in (List.mem_of_getElem? (i := 212) (by decide +kernel)) rfl
theorem k_213 : Cond.instanceMethod yX3_init ∈ lw_all := lw_all_in (List.mem_of_getElem? (i := 213) (by decide +kernel)) rfl
theorem k_214 : Cond.code yX3_init cX3_init 1 none ∈ lw_all := lw_all_in (List.mem_of_getElem? (i := 214) (by decide +kernel)) rfl
theorem k_215 : Cond.methodLink RX3 3 objectInit ∈ lw_all := lw_all_in (List.mem_of_getElem? (i := 215) (by decide +kernel)) rfl
theorem k_216 : Cond.fieldLink RX3 9 "MinsterClock$Hands" "shown" "I" ∈ lw_all := lw_all_in (List.mem_of_getElem? (i := 216) (by decide +kernel)) rfl
theorem k_217 : Cond.fieldLink RX3 15 "MinsterClock$Hands" "owed" "I" ∈ lw_all := lw_all_in (List.mem_of_getElem? (i := 217) (by decide +kernel)) rfl
theorem k_218 : Cond.fieldLink RX3 18 "MinsterClock$Hands" "bound" "I" ∈ lw_all := lw_all_in (List.mem_of_getElem? (i := 218) (by decide +kernel)) rfl
theorem k_219 : Cond.fieldLink RX3 21 "MinsterClock$Hands" "reached" "I" ∈ lw_all := lw_all_in (List.mem_of_getElem? (i := 219) (by decide +kernel)) rfl
theorem k_220 : Cond.lays RX3 "MinsterClock$Hands" "shown" "I" ∈ lw_all := lw_all_in (List.mem_of_getElem? (i := 220) (by decide +kernel)) rfl
theorem k_222 : Cond.lays RX3 "MinsterClock$Hands" "owed" "I" ∈ lw_all := lw_all_in (List.mem_of_getElem? (i := 222) (by decide +kernel)) rfl
theorem k_224 : Cond.lays RX3 "MinsterClock$Hands" "bound" "I" ∈ lw_all := lw_all_in (List.mem_of_getElem? (i := 224) (by decide +kernel)) rfl
theorem k_226 : Cond.lays RX3 "MinsterClock$Hands" "reached" "I" ∈ lw_all := lw_all_in (List.mem_of_getElem? (i := 226) (by decide +kernel)) rfl
theorem k_229 : Cond.classLink RX8 30 RX0 ∈ lw_all := lw_all_in (List.mem_of_getElem? (i := 229) (by decide +kernel)) rfl
theorem k_230 : Cond.instantiable RX0 6 ∈ lw_all := lw_all_in (List.mem_of_getElem? (i := 230) (by decide +kernel)) rfl
theorem k_231 : Cond.methodLink RX8 32 yX0_init ∈ lw_all := lw_all_in (List.mem_of_getElem? (i := 231) (by decide +kernel)) rfl
theorem k_232 : Cond.instanceMethod yX0_init ∈ lw_all := lw_all_in (List.mem_of_getElem? (i := 232) (by decide +kernel)) rfl
theorem k_233 : Cond.code yX0_init cX0_init 1 none ∈ lw_all := lw_all_in (List.mem_of_getElem? (i := 233) (by decide +kernel)) rfl
theorem k_234 : Cond.methodLink RX0 3 objectInit ∈ lw_all := lw_all_in (List.mem_of_getElem? (i := 234) (by decide +kernel)) rfl
theorem k_235 : Cond.classLink RX0 9 RJx4a65c ∈ lw_all := lw_all_in (List.mem_of_getElem? (i := 235) (by decide +kernel)) rfl
theorem k_236 : Cond.methodLink RX0 11 yJx4a65c_init_da8c8 ∈ lw_all := lw_all_in (List.mem_of_getElem? (i := 236) (by decide +kernel)) rfl
theorem k_237 : Cond.classLink RX0 18 RX2 ∈ lw_all := lw_all_in (List.mem_of_getElem? (i := 237) (by decide +kernel)) rfl
theorem k_239 : Cond.fieldLink RX0 12 "MinsterClock$Bells" "drums" "Ljava/util/ArrayList;" ∈ lw_all := lw_all_in (List.mem_of_getElem? (i := 239) (by decide +kernel)) rfl
theorem k_240 : Cond.fieldLink RX0 20 "MinsterClock$Bells" "tunes" "[LMinsterClock$Drum;" ∈ lw_all := lw_all_in (List.mem_of_getElem? (i := 240) (by decide +kernel)) rfl
theorem k_241 : Cond.fieldLink RX0 24 "MinsterClock$Bells" "strokesOfBells" "[I" ∈ lw_all := lw_all_in (List.mem_of_getElem? (i := 241) (by decide +kernel)) rfl
theorem k_242 : Cond.fieldLink RX0 28 "MinsterClock$Bells" "silentFrom" "I" ∈ lw_all := lw_all_in (List.mem_of_getElem? (i := 242) (by decide +kernel)) rfl
theorem k_243 : Cond.fieldLink RX0 32 "MinsterClock$Bells" "silentTo" "I" ∈ lw_all := lw_all_in (List.mem_of_getElem? (i := 243) (by decide +kernel)) rfl
theorem k_244 : Cond.fieldLink RX0 35 "MinsterClock$Bells" "areQuartersOn" "Z" ∈ lw_all := lw_all_in (List.mem_of_getElem? (i := 244) (by decide +kernel)) rfl
theorem k_245 : Cond.laysFinal RX0 "MinsterClock$Bells" "drums" "Ljava/util/ArrayList;" ∈ lw_all := lw_all_in (List.mem_of_getElem? (i := 245) (by decide +kernel)) rfl
theorem k_247 : Cond.laysFinal RX0 "MinsterClock$Bells" "tunes" "[LMinsterClock$Drum;" ∈ lw_all := lw_all_in (List.mem_of_getElem? (i := 247) (by decide +kernel)) rfl
theorem k_249 : Cond.laysFinal RX0 "MinsterClock$Bells" "strokesOfBells" "[I" ∈ lw_all := lw_all_in (List.mem_of_getElem? (i := 249) (by decide +kernel)) rfl
theorem k_251 : Cond.lays RX0 "MinsterClock$Bells" "silentFrom" "I" ∈ lw_all := lw_all_in (List.mem_of_getElem? (i := 251) (by decide +kernel)) rfl
theorem k_253 : Cond.lays RX0 "MinsterClock$Bells" "silentTo" "I" ∈ lw_all := lw_all_in (List.mem_of_getElem? (i := 253) (by decide +kernel)) rfl
theorem k_255 : Cond.lays RX0 "MinsterClock$Bells" "areQuartersOn" "Z" ∈ lw_all := lw_all_in (List.mem_of_getElem? (i := 255) (by decide +kernel)) rfl
theorem k_258 : Cond.arrayClass .int ∈ lw_all := lw_all_in (List.mem_of_getElem? (i := 258) (by decide +kernel)) rfl
theorem k_259 : Cond.classLink RX8 37 RX5 ∈ lw_all := lw_all_in (List.mem_of_getElem? (i := 259) (by decide +kernel)) rfl
theorem k_260 : Cond.instantiable RX5 4 ∈ lw_all := lw_all_in (List.mem_of_getElem? (i := 260) (by decide +kernel)) rfl
theorem k_261 : Cond.methodLink RX8 39 yX5_init ∈ lw_all := lw_all_in (List.mem_of_getElem? (i := 261) (by decide +kernel)) rfl
theorem k_262 : Cond.instanceMethod yX5_init ∈ lw_all := lw_all_in (List.mem_of_getElem? (i := 262) (by decide +kernel)) rfl
theorem k_263 : Cond.code yX5_init cX5_init 1 none ∈ lw_all := lw_all_in (List.mem_of_getElem? (i := 263) (by decide +kernel)) rfl
theorem k_264 : Cond.methodLink RX5 1 objectInit ∈ lw_all := lw_all_in (List.mem_of_getElem? (i := 264) (by decide +kernel)) rfl
theorem k_265 : Cond.fieldLink RX5 9 "MinsterClock$StrikeLog" "marks" "[I" ∈ lw_all := lw_all_in (List.mem_of_getElem? (i := 265) (by decide +kernel)) rfl
theorem k_266 : Cond.fieldLink RX5 13 "MinsterClock$StrikeLog" "strokesOfMarks" "[I" ∈ lw_all := lw_all_in (List.mem_of_getElem? (i := 266) (by decide +kernel)) rfl
theorem k_267 : Cond.fieldLink RX5 16 "MinsterClock$StrikeLog" "struck" "I" ∈ lw_all := lw_all_in (List.mem_of_getElem? (i := 267) (by decide +kernel)) rfl
theorem k_268 : Cond.fieldLink RX5 20 "MinsterClock$StrikeLog" "allStrokes" "J" ∈ lw_all := lw_all_in (List.mem_of_getElem? (i := 268) (by decide +kernel)) rfl
theorem k_269 : Cond.laysFinal RX5 "MinsterClock$StrikeLog" "marks" "[I" ∈ lw_all := lw_all_in (List.mem_of_getElem? (i := 269) (by decide +kernel)) rfl
theorem k_271 : Cond.laysFinal RX5 "MinsterClock$StrikeLog" "strokesOfMarks" "[I" ∈ lw_all := lw_all_in (List.mem_of_getElem? (i := 271) (by decide +kernel)) rfl
theorem k_273 : Cond.lays RX5 "MinsterClock$StrikeLog" "struck" "I" ∈ lw_all := lw_all_in (List.mem_of_getElem? (i := 273) (by decide +kernel)) rfl
theorem k_275 : Cond.lays RX5 "MinsterClock$StrikeLog" "allStrokes" "J" ∈ lw_all := lw_all_in (List.mem_of_getElem? (i := 275) (by decide +kernel)) rfl
theorem k_278 : Cond.methodLink RX8 54 yX1_numberByYears ∈ lw_all := lw_all_in (List.mem_of_getElem? (i := 278) (by decide +kernel)) rfl
theorem k_279 : Cond.static yX1_numberByYears ∈ lw_all := lw_all_in (List.mem_of_getElem? (i := 279) (by decide +kernel)) rfl
theorem k_280 : Cond.code yX1_numberByYears cX1_numberByYears 3 (some .long) ∈ lw_all := lw_all_in (List.mem_of_getElem? (i := 280) (by decide +kernel)) rfl
theorem k_281 : Cond.methodLink RX1 19 yX1_daysBeforeYear ∈ lw_all := lw_all_in (List.mem_of_getElem? (i := 281) (by decide +kernel)) rfl
theorem k_282 : Cond.static yX1_daysBeforeYear ∈ lw_all := lw_all_in (List.mem_of_getElem? (i := 282) (by decide +kernel)) rfl
theorem k_283 : Cond.code yX1_daysBeforeYear cX1_daysBeforeYear 3 (some .long) ∈ lw_all := lw_all_in (List.mem_of_getElem? (i := 283) (by decide +kernel)) rfl
theorem k_284 : Cond.constantLong RX1 32 (365) ∈ lw_all := lw_all_in (List.mem_of_getElem? (i := 284) (by decide +kernel)) rfl
theorem k_285 : Cond.constantLong RX1 57 (4) ∈ lw_all := lw_all_in (List.mem_of_getElem? (i := 285) (by decide +kernel)) rfl
theorem k_286 : Cond.constantLong RX1 55 (100) ∈ lw_all := lw_all_in (List.mem_of_getElem? (i := 286) (by decide +kernel)) rfl
theorem k_287 : Cond.constantLong RX1 53 (400) ∈ lw_all := lw_all_in (List.mem_of_getElem? (i := 287) (by decide +kernel)) rfl
theorem k_288 : Cond.methodLink RX1 23 yX1_daysBeforeMonth ∈ lw_all := lw_all_in (List.mem_of_getElem? (i := 288) (by decide +kernel)) rfl
theorem k_289 : Cond.static yX1_daysBeforeMonth ∈ lw_all := lw_all_in (List.mem_of_getElem? (i := 289) (by decide +kernel)) rfl
theorem k_290 : Cond.code yX1_daysBeforeMonth cX1_daysBeforeMonth 2 (some .int) ∈ lw_all := lw_all_in (List.mem_of_getElem? (i := 290) (by decide +kernel)) rfl
theorem k_291 : Cond.fieldLink RX1 70 "MinsterClock$Dates" "DAYS_BEFORE_MONTHS" "[I" ∈ lw_all := lw_all_in (List.mem_of_getElem? (i := 291) (by decide +kernel)) rfl
theorem k_294 : Cond.static yX8_isWithin ∈ lw_all := lw_all_in (List.mem_of_getElem? (i := 294) (by decide +kernel)) rfl
theorem k_295 : Cond.code yX8_isWithin cX8_isWithin 3 (some .boolean) ∈ lw_all := lw_all_in (List.mem_of_getElem? (i := 295) (by decide +kernel)) rfl
theorem k_296 : Cond.methodLink RX1 26 yX1_hasLeapDay ∈ lw_all := lw_all_in (List.mem_of_getElem? (i := 296) (by decide +kernel)) rfl
theorem k_297 : Cond.static yX1_hasLeapDay ∈ lw_all := lw_all_in (List.mem_of_getElem? (i := 297) (by decide +kernel)) rfl
theorem k_298 : Cond.code yX1_hasLeapDay cX1_hasLeapDay 1 (some .boolean) ∈ lw_all := lw_all_in (List.mem_of_getElem? (i := 298) (by decide +kernel)) rfl
theorem k_299 : Cond.fieldLink RX8 10 "MinsterClock" "train" "LMinsterClock$Train;" ∈ lw_all := lw_all_in (List.mem_of_getElem? (i := 299) (by decide +kernel)) rfl
theorem k_300 : Cond.fieldLink RX8 19 "MinsterClock" "pace" "LMinsterClock$Pace;" ∈ lw_all := lw_all_in (List.mem_of_getElem? (i := 300) (by decide +kernel)) rfl
theorem k_301 : Cond.fieldLink RX8 26 "MinsterClock" "hands" "LMinsterClock$Hands;" ∈ lw_all := lw_all_in (List.mem_of_getElem? (i := 301) (by decide +kernel)) rfl
theorem k_302 : Cond.fieldLink RX8 33 "MinsterClock" "bells" "LMinsterClock$Bells;" ∈ lw_all := lw_all_in (List.mem_of_getElem? (i := 302) (by decide +kernel)) rfl
theorem k_303 : Cond.fieldLink RX8 40 "MinsterClock" "log" "LMinsterClock$StrikeLog;" ∈ lw_all := lw_all_in (List.mem_of_getElem? (i := 303) (by decide +kernel)) rfl
theorem k_304 : Cond.fieldLink RX8 44 "MinsterClock" "trialPace" "LMinsterClock$Pace;" ∈ lw_all := lw_all_in (List.mem_of_getElem? (i := 304) (by decide +kernel)) rfl
theorem k_305 : Cond.fieldLink RX8 47 "MinsterClock" "trialHands" "LMinsterClock$Hands;" ∈ lw_all := lw_all_in (List.mem_of_getElem? (i := 305) (by decide +kernel)) rfl
theorem k_306 : Cond.fieldLink RX8 50 "MinsterClock" "beatsPassed" "J" ∈ lw_all := lw_all_in (List.mem_of_getElem? (i := 306) (by decide +kernel)) rfl
theorem k_307 : Cond.fieldLink RX8 60 "MinsterClock" "dateOfShownZero" "J" ∈ lw_all := lw_all_in (List.mem_of_getElem? (i := 307) (by decide +kernel)) rfl
theorem k_308 : Cond.laysFinal RX8 "MinsterClock" "train" "LMinsterClock$Train;" ∈ lw_all := lw_all_in (List.mem_of_getElem? (i := 308) (by decide +kernel)) rfl
theorem k_310 : Cond.laysFinal RX8 "MinsterClock" "pace" "LMinsterClock$Pace;" ∈ lw_all := lw_all_in (List.mem_of_getElem? (i := 310) (by decide +kernel)) rfl
theorem k_312 : Cond.laysFinal RX8 "MinsterClock" "hands" "LMinsterClock$Hands;" ∈ lw_all := lw_all_in (List.mem_of_getElem? (i := 312) (by decide +kernel)) rfl
theorem k_314 : Cond.laysFinal RX8 "MinsterClock" "bells" "LMinsterClock$Bells;" ∈ lw_all := lw_all_in (List.mem_of_getElem? (i := 314) (by decide +kernel)) rfl
theorem k_316 : Cond.laysFinal RX8 "MinsterClock" "log" "LMinsterClock$StrikeLog;" ∈ lw_all := lw_all_in (List.mem_of_getElem? (i := 316) (by decide +kernel)) rfl
theorem k_318 : Cond.laysFinal RX8 "MinsterClock" "trialPace" "LMinsterClock$Pace;" ∈ lw_all := lw_all_in (List.mem_of_getElem? (i := 318) (by decide +kernel)) rfl
theorem k_320 : Cond.laysFinal RX8 "MinsterClock" "trialHands" "LMinsterClock$Hands;" ∈ lw_all := lw_all_in (List.mem_of_getElem? (i := 320) (by decide +kernel)) rfl
theorem k_322 : Cond.lays RX8 "MinsterClock" "beatsPassed" "J" ∈ lw_all := lw_all_in (List.mem_of_getElem? (i := 322) (by decide +kernel)) rfl
theorem k_324 : Cond.lays RX8 "MinsterClock" "dateOfShownZero" "J" ∈ lw_all := lw_all_in (List.mem_of_getElem? (i := 324) (by decide +kernel)) rfl
theorem k_327 : Cond.methodLink RL 119 yX8_wheels ∈ lw_all := lw_all_in (List.mem_of_getElem? (i := 327) (by decide +kernel)) rfl
theorem k_328 : Cond.instanceMethod yX8_wheels ∈ lw_all := lw_all_in (List.mem_of_getElem? (i := 328) (by decide +kernel)) rfl
theorem k_329 : Cond.selects RX8 yX8_wheels yX8_wheels ∈ lw_all := lw_all_in (List.mem_of_getElem? (i := 329) (by decide +kernel)) rfl
theorem k_330 : Cond.code yX8_wheels cX8_wheels 1 (some .int) ∈ lw_all := lw_all_in (List.mem_of_getElem? (i := 330) (by decide +kernel)) rfl
theorem k_331 : Cond.methodLink RX8 74 yX6_size ∈ lw_all := lw_all_in (List.mem_of_getElem? (i := 331) (by decide +kernel)) rfl
theorem k_332 : Cond.instanceMethod yX6_size ∈ lw_all := lw_all_in (List.mem_of_getElem? (i := 332) (by decide +kernel)) rfl
theorem k_333 : Cond.selects RX6 yX6_size yX6_size ∈ lw_all := lw_all_in (List.mem_of_getElem? (i := 333) (by decide +kernel)) rfl
theorem k_334 : Cond.code yX6_size cX6_size 1 (some .int) ∈ lw_all := lw_all_in (List.mem_of_getElem? (i := 334) (by decide +kernel)) rfl
theorem k_335 : Cond.methodLink RX6 25 yJx4a65c_size_8abf5 ∈ lw_all := lw_all_in (List.mem_of_getElem? (i := 335) (by decide +kernel)) rfl
theorem k_336 : Cond.instanceMethod yJx4a65c_size_8abf5 ∈ lw_all := lw_all_in (List.mem_of_getElem? (i := 336) (by decide +kernel)) rfl
theorem k_337 : Cond.selects RJx4a65c yJx4a65c_size_8abf5 yJx4a65c_size_8abf5 ∈ lw_all := lw_all_in (List.mem_of_getElem? (i := 337) (by decide +kernel)) rfl
theorem k_338 : Cond.code yJx4a65c_size_8abf5 cJx4a65c_size_8abf5 1 (some .int) ∈ lw_all := lw_all_in (List.mem_of_getElem? (i := 338) (by decide +kernel)) rfl
theorem k_339 : Cond.methodLink RL 146 yX8_beats ∈ lw_all := lw_all_in (List.mem_of_getElem? (i := 339) (by decide +kernel)) rfl
theorem k_340 : Cond.instanceMethod yX8_beats ∈ lw_all := lw_all_in (List.mem_of_getElem? (i := 340) (by decide +kernel)) rfl
theorem k_341 : Cond.selects RX8 yX8_beats yX8_beats ∈ lw_all := lw_all_in (List.mem_of_getElem? (i := 341) (by decide +kernel)) rfl
theorem k_342 : Cond.code yX8_beats cX8_beats 1 (some .long) ∈ lw_all := lw_all_in (List.mem_of_getElem? (i := 342) (by decide +kernel)) rfl
theorem k_343 : Cond.methodLink RL 151 yX8_shown ∈ lw_all := lw_all_in (List.mem_of_getElem? (i := 343) (by decide +kernel)) rfl
theorem k_344 : Cond.instanceMethod yX8_shown ∈ lw_all := lw_all_in (List.mem_of_getElem? (i := 344) (by decide +kernel)) rfl
theorem k_345 : Cond.selects RX8 yX8_shown yX8_shown ∈ lw_all := lw_all_in (List.mem_of_getElem? (i := 345) (by decide +kernel)) rfl
theorem k_346 : Cond.code yX8_shown cX8_shown 1 (some .int) ∈ lw_all := lw_all_in (List.mem_of_getElem? (i := 346) (by decide +kernel)) rfl
theorem k_347 : Cond.methodLink RX8 123 yX3_seconds ∈ lw_all := lw_all_in (List.mem_of_getElem? (i := 347) (by decide +kernel)) rfl
theorem k_348 : Cond.instanceMethod yX3_seconds ∈ lw_all := lw_all_in (List.mem_of_getElem? (i := 348) (by decide +kernel)) rfl
theorem k_349 : Cond.selects RX3 yX3_seconds yX3_seconds ∈ lw_all := lw_all_in (List.mem_of_getElem? (i := 349) (by decide +kernel)) rfl
theorem k_350 : Cond.code yX3_seconds cX3_seconds 1 (some .int) ∈ lw_all := lw_all_in (List.mem_of_getElem? (i := 350) (by decide +kernel)) rfl
theorem k_351 : Cond.methodLink RL 155 yX8_hour ∈ lw_all := lw_all_in (List.mem_of_getElem? (i := 351) (by decide +kernel)) rfl
theorem k_352 : Cond.instanceMethod yX8_hour ∈ lw_all := lw_all_in (List.mem_of_getElem? (i := 352) (by decide +kernel)) rfl
theorem k_353 : Cond.selects RX8 yX8_hour yX8_hour ∈ lw_all := lw_all_in (List.mem_of_getElem? (i := 353) (by decide +kernel)) rfl
theorem k_354 : Cond.code yX8_hour cX8_hour 1 (some .int) ∈ lw_all := lw_all_in (List.mem_of_getElem? (i := 354) (by decide +kernel)) rfl
theorem k_355 : Cond.methodLink RX8 126 yX8_hourOf ∈ lw_all := lw_all_in (List.mem_of_getElem? (i := 355) (by decide +kernel)) rfl
theorem k_356 : Cond.static yX8_hourOf ∈ lw_all := lw_all_in (List.mem_of_getElem? (i := 356) (by decide +kernel)) rfl
theorem k_357 : Cond.code yX8_hourOf cX8_hourOf 1 (some .int) ∈ lw_all := lw_all_in (List.mem_of_getElem? (i := 357) (by decide +kernel)) rfl
theorem k_358 : Cond.methodLink RX8 129 yJ9_floorDiv_7cf53 ∈ lw_all := lw_all_in (List.mem_of_getElem? (i := 358) (by decide +kernel)) rfl
theorem k_359 : Cond.static yJ9_floorDiv_7cf53 ∈ lw_all := lw_all_in (List.mem_of_getElem? (i := 359) (by decide +kernel)) rfl
theorem k_360 : Cond.code yJ9_floorDiv_7cf53 cJ9_floorDiv_7cf53 3 (some .int) ∈ lw_all := lw_all_in (List.mem_of_getElem? (i := 360) (by decide +kernel)) rfl
theorem k_361 : Cond.methodLink RX8 134 yJ9_floorMod_7cf53 ∈ lw_all := lw_all_in (List.mem_of_getElem? (i := 361) (by decide +kernel)) rfl
theorem k_362 : Cond.static yJ9_floorMod_7cf53 ∈ lw_all := lw_all_in (List.mem_of_getElem? (i := 362) (by decide +kernel)) rfl
theorem k_363 : Cond.code yJ9_floorMod_7cf53 cJ9_floorMod_7cf53 3 (some .int) ∈ lw_all := lw_all_in (List.mem_of_getElem? (i := 363) (by decide +kernel)) rfl
theorem k_364 : Cond.methodLink RL 159 yX8_minute ∈ lw_all := lw_all_in (List.mem_of_getElem? (i := 364) (by decide +kernel)) rfl
theorem k_365 : Cond.instanceMethod yX8_minute ∈ lw_all := lw_all_in (List.mem_of_getElem? (i := 365) (by decide +kernel)) rfl
theorem k_366 : Cond.selects RX8 yX8_minute yX8_minute ∈ lw_all := lw_all_in (List.mem_of_getElem? (i := 366) (by decide +kernel)) rfl
theorem k_367 : Cond.code yX8_minute cX8_minute 1 (some .int) ∈ lw_all := lw_all_in (List.mem_of_getElem? (i := 367) (by decide +kernel)) rfl
theorem k_368 : Cond.methodLink RL 173 yX8_year ∈ lw_all := lw_all_in (List.mem_of_getElem? (i := 368) (by decide +kernel)) rfl
theorem k_369 : Cond.instanceMethod yX8_year ∈ lw_all := lw_all_in (List.mem_of_getElem? (i := 369) (by decide +kernel)) rfl
theorem k_370 : Cond.selects RX8 yX8_year yX8_year ∈ lw_all := lw_all_in (List.mem_of_getElem? (i := 370) (by decide +kernel)) rfl
theorem k_371 : Cond.code yX8_year cX8_year 1 (some .int) ∈ lw_all := lw_all_in (List.mem_of_getElem? (i := 371) (by decide +kernel)) rfl
theorem k_372 : Cond.methodLink RX8 165 yX8_dateShown ∈ lw_all := lw_all_in (List.mem_of_getElem? (i := 372) (by decide +kernel)) rfl
theorem k_374 : Cond.instanceMethod yX8_dateShown ∈ lw_all := lw_all_in (List.mem_of_getElem? (i := 374) (by decide +kernel)) rfl
theorem k_375 : Cond.code yX8_dateShown cX8_dateShown 1 (some .long) ∈ lw_all := lw_all_in (List.mem_of_getElem? (i := 375) (by decide +kernel)) rfl
theorem k_376 : Cond.methodLink RX8 158 yX8_wholeDaysShown ∈ lw_all := lw_all_in (List.mem_of_getElem? (i := 376) (by decide +kernel)) rfl
theorem k_378 : Cond.instanceMethod yX8_wholeDaysShown ∈ lw_all := lw_all_in (List.mem_of_getElem? (i := 378) (by decide +kernel)) rfl
theorem k_379 : Cond.code yX8_wholeDaysShown cX8_wholeDaysShown 1 (some .int) ∈ lw_all := lw_all_in (List.mem_of_getElem? (i := 379) (by decide +kernel)) rfl
theorem k_380 : Cond.constant RX8 311 (86400) ∈ lw_all := lw_all_in (List.mem_of_getElem? (i := 380) (by decide +kernel)) rfl
theorem k_381 : Cond.methodLink RX8 169 yX1_yearOf ∈ lw_all := lw_all_in (List.mem_of_getElem? (i := 381) (by decide +kernel)) rfl
theorem k_382 : Cond.static yX1_yearOf ∈ lw_all := lw_all_in (List.mem_of_getElem? (i := 382) (by decide +kernel)) rfl
theorem k_383 : Cond.code yX1_yearOf cX1_yearOf 12 (some .int) ∈ lw_all := lw_all_in (List.mem_of_getElem? (i := 383) (by decide +kernel)) rfl
theorem k_384 : Cond.constantLong RX1 42 (146097) ∈ lw_all := lw_all_in (List.mem_of_getElem? (i := 384) (by decide +kernel)) rfl
theorem k_385 : Cond.constantLong RX1 44 (3) ∈ lw_all := lw_all_in (List.mem_of_getElem? (i := 385) (by decide +kernel)) rfl
theorem k_386 : Cond.constantLong RX1 46 (36524) ∈ lw_all := lw_all_in (List.mem_of_getElem? (i := 386) (by decide +kernel)) rfl
theorem k_387 : Cond.methodLink RX1 48 Lib.MathLoose.min_long.x ∈ lw_all := lw_all_in (List.mem_of_getElem? (i := 387) (by decide +kernel)) rfl
theorem k_388 : Cond.static Lib.MathLoose.min_long.x ∈ lw_all := lw_all_in (List.mem_of_getElem? (i := 388) (by decide +kernel)) rfl
theorem k_389 : Cond.code Lib.MathLoose.min_long.x Lib.MathLoose.min_long.code 4 (some .long) ∈ lw_all := lw_all_in (List.mem_of_getElem? (i := 389) (by decide +kernel)) rfl
theorem k_390 : Cond.constantLong RX1 51 (1461) ∈ lw_all := lw_all_in (List.mem_of_getElem? (i := 390) (by decide +kernel)) rfl
theorem k_391 : Cond.methodLink RL 177 yX8_month ∈ lw_all := lw_all_in (List.mem_of_getElem? (i := 391) (by decide +kernel)) rfl
theorem k_392 : Cond.instanceMethod yX8_month ∈ lw_all := lw_all_in (List.mem_of_getElem? (i := 392) (by decide +kernel)) rfl
theorem k_393 : Cond.selects RX8 yX8_month yX8_month ∈ lw_all := lw_all_in (List.mem_of_getElem? (i := 393) (by decide +kernel)) rfl
theorem k_394 : Cond.code yX8_month cX8_month 1 (some .int) ∈ lw_all := lw_all_in (List.mem_of_getElem? (i := 394) (by decide +kernel)) rfl
theorem k_395 : Cond.methodLink RX8 172 yX1_monthOf ∈ lw_all := lw_all_in (List.mem_of_getElem? (i := 395) (by decide +kernel)) rfl
theorem k_396 : Cond.static yX1_monthOf ∈ lw_all := lw_all_in (List.mem_of_getElem? (i := 396) (by decide +kernel)) rfl
theorem k_397 : Cond.code yX1_monthOf cX1_monthOf 6 (some .int) ∈ lw_all := lw_all_in (List.mem_of_getElem? (i := 397) (by decide +kernel)) rfl
theorem k_398 : Cond.methodLink RX1 59 yX1_yearOf ∈ lw_all := lw_all_in (List.mem_of_getElem? (i := 398) (by decide +kernel)) rfl
theorem k_399 : Cond.methodLink RL 181 yX8_day ∈ lw_all := lw_all_in (List.mem_of_getElem? (i := 399) (by decide +kernel)) rfl
theorem k_400 : Cond.instanceMethod yX8_day ∈ lw_all := lw_all_in (List.mem_of_getElem? (i := 400) (by decide +kernel)) rfl
theorem k_401 : Cond.selects RX8 yX8_day yX8_day ∈ lw_all := lw_all_in (List.mem_of_getElem? (i := 401) (by decide +kernel)) rfl
theorem k_402 : Cond.code yX8_day cX8_day 1 (some .int) ∈ lw_all := lw_all_in (List.mem_of_getElem? (i := 402) (by decide +kernel)) rfl
theorem k_403 : Cond.methodLink RX8 175 yX1_dayOf ∈ lw_all := lw_all_in (List.mem_of_getElem? (i := 403) (by decide +kernel)) rfl
theorem k_404 : Cond.static yX1_dayOf ∈ lw_all := lw_all_in (List.mem_of_getElem? (i := 404) (by decide +kernel)) rfl
theorem k_405 : Cond.code yX1_dayOf cX1_dayOf 3 (some .int) ∈ lw_all := lw_all_in (List.mem_of_getElem? (i := 405) (by decide +kernel)) rfl
theorem k_406 : Cond.methodLink RX1 63 yX1_monthOf ∈ lw_all := lw_all_in (List.mem_of_getElem? (i := 406) (by decide +kernel)) rfl
theorem k_407 : Cond.methodLink RL 185 yX8_weekday ∈ lw_all := lw_all_in (List.mem_of_getElem? (i := 407) (by decide +kernel)) rfl
theorem k_408 : Cond.instanceMethod yX8_weekday ∈ lw_all := lw_all_in (List.mem_of_getElem? (i := 408) (by decide +kernel)) rfl
theorem k_409 : Cond.selects RX8 yX8_weekday yX8_weekday ∈ lw_all := lw_all_in (List.mem_of_getElem? (i := 409) (by decide +kernel)) rfl
theorem k_410 : Cond.code yX8_weekday cX8_weekday 1 (some .int) ∈ lw_all := lw_all_in (List.mem_of_getElem? (i := 410) (by decide +kernel)) rfl
theorem k_411 : Cond.methodLink RX8 161 yX1_weekdayOf ∈ lw_all := lw_all_in (List.mem_of_getElem? (i := 411) (by decide +kernel)) rfl
theorem k_412 : Cond.static yX1_weekdayOf ∈ lw_all := lw_all_in (List.mem_of_getElem? (i := 412) (by decide +kernel)) rfl
theorem k_413 : Cond.code yX1_weekdayOf cX1_weekdayOf 2 (some .int) ∈ lw_all := lw_all_in (List.mem_of_getElem? (i := 413) (by decide +kernel)) rfl
theorem k_414 : Cond.constantLong RX1 34 (7) ∈ lw_all := lw_all_in (List.mem_of_getElem? (i := 414) (by decide +kernel)) rfl
theorem k_415 : Cond.methodLink RX1 36 yJ9_floorMod_f86c9 ∈ lw_all := lw_all_in (List.mem_of_getElem? (i := 415) (by decide +kernel)) rfl
theorem k_416 : Cond.static yJ9_floorMod_f86c9 ∈ lw_all := lw_all_in (List.mem_of_getElem? (i := 416) (by decide +kernel)) rfl
theorem k_417 : Cond.code yJ9_floorMod_f86c9 cJ9_floorMod_f86c9 6 (some .long) ∈ lw_all := lw_all_in (List.mem_of_getElem? (i := 417) (by decide +kernel)) rfl
theorem k_418 : Cond.methodLink RL 201 yX8_setQuarters ∈ lw_all := lw_all_in (List.mem_of_getElem? (i := 418) (by decide +kernel)) rfl
theorem k_419 : Cond.instanceMethod yX8_setQuarters ∈ lw_all := lw_all_in (List.mem_of_getElem? (i := 419) (by decide +kernel)) rfl
theorem k_420 : Cond.selects RX8 yX8_setQuarters yX8_setQuarters ∈ lw_all := lw_all_in (List.mem_of_getElem? (i := 420) (by decide +kernel)) rfl
theorem k_421 : Cond.code yX8_setQuarters cX8_setQuarters 2 (some .boolean) ∈ lw_all := lw_all_in (List.mem_of_getElem? (i := 421) (by decide +kernel)) rfl
theorem k_422 : Cond.methodLink RX8 195 yX0_changeQuarters ∈ lw_all := lw_all_in (List.mem_of_getElem? (i := 422) (by decide +kernel)) rfl
theorem k_423 : Cond.instanceMethod yX0_changeQuarters ∈ lw_all := lw_all_in (List.mem_of_getElem? (i := 423) (by decide +kernel)) rfl
theorem k_424 : Cond.selects RX0 yX0_changeQuarters yX0_changeQuarters ∈ lw_all := lw_all_in (List.mem_of_getElem? (i := 424) (by decide +kernel)) rfl
theorem k_425 : Cond.code yX0_changeQuarters cX0_changeQuarters 3 (some .boolean) ∈ lw_all := lw_all_in (List.mem_of_getElem? (i := 425) (by decide +kernel)) rfl
theorem k_426 : Cond.methodLink RL 226 yX8_strikes ∈ lw_all := lw_all_in (List.mem_of_getElem? (i := 426) (by decide +kernel)) rfl
theorem k_427 : Cond.instanceMethod yX8_strikes ∈ lw_all := lw_all_in (List.mem_of_getElem? (i := 427) (by decide +kernel)) rfl
theorem k_428 : Cond.selects RX8 yX8_strikes yX8_strikes ∈ lw_all := lw_all_in (List.mem_of_getElem? (i := 428) (by decide +kernel)) rfl
theorem k_429 : Cond.code yX8_strikes cX8_strikes 1 (some .int) ∈ lw_all := lw_all_in (List.mem_of_getElem? (i := 429) (by decide +kernel)) rfl
theorem k_430 : Cond.methodLink RX8 247 yX5_struckMarks ∈ lw_all := lw_all_in (List.mem_of_getElem? (i := 430) (by decide +kernel)) rfl
theorem k_431 : Cond.instanceMethod yX5_struckMarks ∈ lw_all := lw_all_in (List.mem_of_getElem? (i := 431) (by decide +kernel)) rfl
theorem k_432 : Cond.selects RX5 yX5_struckMarks yX5_struckMarks ∈ lw_all := lw_all_in (List.mem_of_getElem? (i := 432) (by decide +kernel)) rfl
theorem k_433 : Cond.code yX5_struckMarks cX5_struckMarks 1 (some .int) ∈ lw_all := lw_all_in (List.mem_of_getElem? (i := 433) (by decide +kernel)) rfl
theorem k_434 : Cond.methodLink RL 246 yX8_isOnce ∈ lw_all := lw_all_in (List.mem_of_getElem? (i := 434) (by decide +kernel)) rfl
theorem k_435 : Cond.instanceMethod yX8_isOnce ∈ lw_all := lw_all_in (List.mem_of_getElem? (i := 435) (by decide +kernel)) rfl
theorem k_436 : Cond.selects RX8 yX8_isOnce yX8_isOnce ∈ lw_all := lw_all_in (List.mem_of_getElem? (i := 436) (by decide +kernel)) rfl
theorem k_437 : Cond.code yX8_isOnce cX8_isOnce 5 (some .boolean) ∈ lw_all := lw_all_in (List.mem_of_getElem? (i := 437) (by decide +kernel)) rfl
theorem k_438 : Cond.methodLink RX8 280 yX5_isFalling ∈ lw_all := lw_all_in (List.mem_of_getElem? (i := 438) (by decide +kernel)) rfl
theorem k_439 : Cond.instanceMethod yX5_isFalling ∈ lw_all := lw_all_in (List.mem_of_getElem? (i := 439) (by decide +kernel)) rfl
theorem k_440 : Cond.selects RX5 yX5_isFalling yX5_isFalling ∈ lw_all := lw_all_in (List.mem_of_getElem? (i := 440) (by decide +kernel)) rfl
theorem k_441 : Cond.code yX5_isFalling cX5_isFalling 2 (some .boolean) ∈ lw_all := lw_all_in (List.mem_of_getElem? (i := 441) (by decide +kernel)) rfl
theorem k_442 : Cond.methodLink RX5 34 yX5_keptMarks ∈ lw_all := lw_all_in (List.mem_of_getElem? (i := 442) (by decide +kernel)) rfl
theorem k_443 : Cond.instanceMethod yX5_keptMarks ∈ lw_all := lw_all_in (List.mem_of_getElem? (i := 443) (by decide +kernel)) rfl
theorem k_444 : Cond.selects RX5 yX5_keptMarks yX5_keptMarks ∈ lw_all := lw_all_in (List.mem_of_getElem? (i := 444) (by decide +kernel)) rfl
theorem k_445 : Cond.code yX5_keptMarks cX5_keptMarks 1 (some .int) ∈ lw_all := lw_all_in (List.mem_of_getElem? (i := 445) (by decide +kernel)) rfl
theorem k_446 : Cond.methodLink RX5 28 Lib.Math.min.name ∈ lw_all := lw_all_in (List.mem_of_getElem? (i := 446) (by decide +kernel)) rfl
theorem k_447 : Cond.methodLink RX5 38 yX5_markOfRank ∈ lw_all := lw_all_in (List.mem_of_getElem? (i := 447) (by decide +kernel)) rfl
theorem k_448 : Cond.instanceMethod yX5_markOfRank ∈ lw_all := lw_all_in (List.mem_of_getElem? (i := 448) (by decide +kernel)) rfl
theorem k_449 : Cond.selects RX5 yX5_markOfRank yX5_markOfRank ∈ lw_all := lw_all_in (List.mem_of_getElem? (i := 449) (by decide +kernel)) rfl
theorem k_450 : Cond.code yX5_markOfRank cX5_markOfRank 2 (some .int) ∈ lw_all := lw_all_in (List.mem_of_getElem? (i := 450) (by decide +kernel)) rfl
theorem k_451 : Cond.methodLink RX5 24 yX5_slotOf ∈ lw_all := lw_all_in (List.mem_of_getElem? (i := 451) (by decide +kernel)) rfl
theorem k_453 : Cond.instanceMethod yX5_slotOf ∈ lw_all := lw_all_in (List.mem_of_getElem? (i := 453) (by decide +kernel)) rfl
theorem k_454 : Cond.code yX5_slotOf cX5_slotOf 2 (some .int) ∈ lw_all := lw_all_in (List.mem_of_getElem? (i := 454) (by decide +kernel)) rfl
theorem k_455 : Cond.methodLink RX5 41 yJ9_floorMod_7cf53 ∈ lw_all := lw_all_in (List.mem_of_getElem? (i := 455) (by decide +kernel)) rfl
theorem k_456 : Cond.methodLink RX8 284 yX0_strokesOfAllBells ∈ lw_all := lw_all_in (List.mem_of_getElem? (i := 456) (by decide +kernel)) rfl
theorem k_457 : Cond.instanceMethod yX0_strokesOfAllBells ∈ lw_all := lw_all_in (List.mem_of_getElem? (i := 457) (by decide +kernel)) rfl
theorem k_458 : Cond.selects RX0 yX0_strokesOfAllBells yX0_strokesOfAllBells ∈ lw_all := lw_all_in (List.mem_of_getElem? (i := 458) (by decide +kernel)) rfl
theorem k_459 : Cond.code yX0_strokesOfAllBells cX0_strokesOfAllBells 4 (some .long) ∈ lw_all := lw_all_in (List.mem_of_getElem? (i := 459) (by decide +kernel)) rfl
theorem k_460 : Cond.methodLink RX8 287 yX5_strokesOfAllStrikes ∈ lw_all := lw_all_in (List.mem_of_getElem? (i := 460) (by decide +kernel)) rfl
theorem k_461 : Cond.instanceMethod yX5_strokesOfAllStrikes ∈ lw_all := lw_all_in (List.mem_of_getElem? (i := 461) (by decide +kernel)) rfl
theorem k_462 : Cond.selects RX5 yX5_strokesOfAllStrikes yX5_strokesOfAllStrikes ∈ lw_all := lw_all_in (List.mem_of_getElem? (i := 462) (by decide +kernel)) rfl
theorem k_463 : Cond.code yX5_strokesOfAllStrikes cX5_strokesOfAllStrikes 1 (some .long) ∈ lw_all := lw_all_in (List.mem_of_getElem? (i := 463) (by decide +kernel)) rfl
theorem k_464 : Cond.fieldLink RX8 290 "MinsterClock" "BEATS_FOUND_BOTH_WAYS" "[I" ∈ lw_all := lw_all_in (List.mem_of_getElem? (i := 464) (by decide +kernel)) rfl
theorem k_466 : Cond.methodLink RX8 266 yX8_countByMinutes ∈ lw_all := lw_all_in (List.mem_of_getElem? (i := 466) (by decide +kernel)) rfl
theorem k_468 : Cond.instanceMethod yX8_countByMinutes ∈ lw_all := lw_all_in (List.mem_of_getElem? (i := 468) (by decide +kernel)) rfl
theorem k_469 : Cond.code yX8_countByMinutes cX8_countByMinutes 2 (some .int) ∈ lw_all := lw_all_in (List.mem_of_getElem? (i := 469) (by decide +kernel)) rfl
theorem k_470 : Cond.methodLink RX8 312 yX3_copyFrom ∈ lw_all := lw_all_in (List.mem_of_getElem? (i := 470) (by decide +kernel)) rfl
theorem k_471 : Cond.instanceMethod yX3_copyFrom ∈ lw_all := lw_all_in (List.mem_of_getElem? (i := 471) (by decide +kernel)) rfl
theorem k_472 : Cond.selects RX3 yX3_copyFrom yX3_copyFrom ∈ lw_all := lw_all_in (List.mem_of_getElem? (i := 472) (by decide +kernel)) rfl
theorem k_473 : Cond.code yX3_copyFrom cX3_copyFrom 2 none ∈ lw_all := lw_all_in (List.mem_of_getElem? (i := 473) (by decide +kernel)) rfl
theorem k_474 : Cond.methodLink RX8 316 yX4_secondsOf ∈ lw_all := lw_all_in (List.mem_of_getElem? (i := 474) (by decide +kernel)) rfl
theorem k_475 : Cond.instanceMethod yX4_secondsOf ∈ lw_all := lw_all_in (List.mem_of_getElem? (i := 475) (by decide +kernel)) rfl
theorem k_476 : Cond.selects RX4 yX4_secondsOf yX4_secondsOf ∈ lw_all := lw_all_in (List.mem_of_getElem? (i := 476) (by decide +kernel)) rfl
theorem k_477 : Cond.code yX4_secondsOf cX4_secondsOf 2 (some .int) ∈ lw_all := lw_all_in (List.mem_of_getElem? (i := 477) (by decide +kernel)) rfl
theorem k_479 : Cond.static yX8_wholePart ∈ lw_all := lw_all_in (List.mem_of_getElem? (i := 479) (by decide +kernel)) rfl
theorem k_480 : Cond.code yX8_wholePart cX8_wholePart 4 (some .long) ∈ lw_all := lw_all_in (List.mem_of_getElem? (i := 480) (by decide +kernel)) rfl
theorem k_481 : Cond.methodLink RX8 294 yJ9_floorDiv_f86c9 ∈ lw_all := lw_all_in (List.mem_of_getElem? (i := 481) (by decide +kernel)) rfl
theorem k_482 : Cond.static yJ9_floorDiv_f86c9 ∈ lw_all := lw_all_in (List.mem_of_getElem? (i := 482) (by decide +kernel)) rfl
theorem k_483 : Cond.code yJ9_floorDiv_f86c9 cJ9_floorDiv_f86c9 6 (some .long) ∈ lw_all := lw_all_in (List.mem_of_getElem? (i := 483) (by decide +kernel)) rfl
theorem k_484 : Cond.methodLink RX8 119 yX8_goByMinutes ∈ lw_all := lw_all_in (List.mem_of_getElem? (i := 484) (by decide +kernel)) rfl
theorem k_486 : Cond.instanceMethod yX8_goByMinutes ∈ lw_all := lw_all_in (List.mem_of_getElem? (i := 486) (by decide +kernel)) rfl
theorem k_487 : Cond.code yX8_goByMinutes cX8_goByMinutes 7 (some .int) ∈ lw_all := lw_all_in (List.mem_of_getElem? (i := 487) (by decide +kernel)) rfl
theorem k_488 : Cond.methodLink RX8 332 yX3_secondsToFullMinute ∈ lw_all := lw_all_in (List.mem_of_getElem? (i := 488) (by decide +kernel)) rfl
theorem k_489 : Cond.instanceMethod yX3_secondsToFullMinute ∈ lw_all := lw_all_in (List.mem_of_getElem? (i := 489) (by decide +kernel)) rfl
theorem k_490 : Cond.selects RX3 yX3_secondsToFullMinute yX3_secondsToFullMinute ∈ lw_all := lw_all_in (List.mem_of_getElem? (i := 490) (by decide +kernel)) rfl
theorem k_491 : Cond.code yX3_secondsToFullMinute cX3_secondsToFullMinute 1 (some .int) ∈ lw_all := lw_all_in (List.mem_of_getElem? (i := 491) (by decide +kernel)) rfl
theorem k_492 : Cond.methodLink RX3 24 yJ9_floorMod_7cf53 ∈ lw_all := lw_all_in (List.mem_of_getElem? (i := 492) (by decide +kernel)) rfl
theorem k_493 : Cond.methodLink RX8 335 Lib.Math.min.name ∈ lw_all := lw_all_in (List.mem_of_getElem? (i := 493) (by decide +kernel)) rfl
theorem k_494 : Cond.methodLink RX8 338 Lib.Math.max.name ∈ lw_all := lw_all_in (List.mem_of_getElem? (i := 494) (by decide +kernel)) rfl
theorem k_495 : Cond.methodLink RX8 322 yX3_addSeconds ∈ lw_all := lw_all_in (List.mem_of_getElem? (i := 495) (by decide +kernel)) rfl
theorem k_496 : Cond.instanceMethod yX3_addSeconds ∈ lw_all := lw_all_in (List.mem_of_getElem? (i := 496) (by decide +kernel)) rfl
theorem k_497 : Cond.selects RX3 yX3_addSeconds yX3_addSeconds ∈ lw_all := lw_all_in (List.mem_of_getElem? (i := 497) (by decide +kernel)) rfl
theorem k_498 : Cond.code yX3_addSeconds cX3_addSeconds 2 none ∈ lw_all := lw_all_in (List.mem_of_getElem? (i := 498) (by decide +kernel)) rfl
theorem k_499 : Cond.methodLink RX8 325 yX3_isFullMinute ∈ lw_all := lw_all_in (List.mem_of_getElem? (i := 499) (by decide +kernel)) rfl
theorem k_500 : Cond.instanceMethod yX3_isFullMinute ∈ lw_all := lw_all_in (List.mem_of_getElem? (i := 500) (by decide +kernel)) rfl
theorem k_501 : Cond.selects RX3 yX3_isFullMinute yX3_isFullMinute ∈ lw_all := lw_all_in (List.mem_of_getElem? (i := 501) (by decide +kernel)) rfl
theorem k_502 : Cond.code yX3_isFullMinute cX3_isFullMinute 1 (some .boolean) ∈ lw_all := lw_all_in (List.mem_of_getElem? (i := 502) (by decide +kernel)) rfl
theorem k_503 : Cond.methodLink RX8 328 yX8_comeToFullMinute ∈ lw_all := lw_all_in (List.mem_of_getElem? (i := 503) (by decide +kernel)) rfl
theorem k_505 : Cond.instanceMethod yX8_comeToFullMinute ∈ lw_all := lw_all_in (List.mem_of_getElem? (i := 505) (by decide +kernel)) rfl
theorem k_506 : Cond.code yX8_comeToFullMinute cX8_comeToFullMinute 4 (some .int) ∈ lw_all := lw_all_in (List.mem_of_getElem? (i := 506) (by decide +kernel)) rfl
theorem k_507 : Cond.methodLink RX8 341 yX3_reachMark ∈ lw_all := lw_all_in (List.mem_of_getElem? (i := 507) (by decide +kernel)) rfl
theorem k_508 : Cond.instanceMethod yX3_reachMark ∈ lw_all := lw_all_in (List.mem_of_getElem? (i := 508) (by decide +kernel)) rfl
theorem k_509 : Cond.selects RX3 yX3_reachMark yX3_reachMark ∈ lw_all := lw_all_in (List.mem_of_getElem? (i := 509) (by decide +kernel)) rfl
theorem k_510 : Cond.code yX3_reachMark cX3_reachMark 1 (some .boolean) ∈ lw_all := lw_all_in (List.mem_of_getElem? (i := 510) (by decide +kernel)) rfl
theorem k_511 : Cond.methodLink RX8 344 yX8_strike ∈ lw_all := lw_all_in (List.mem_of_getElem? (i := 511) (by decide +kernel)) rfl
theorem k_513 : Cond.instanceMethod yX8_strike ∈ lw_all := lw_all_in (List.mem_of_getElem? (i := 513) (by decide +kernel)) rfl
theorem k_514 : Cond.code yX8_strike cX8_strike 3 (some .int) ∈ lw_all := lw_all_in (List.mem_of_getElem? (i := 514) (by decide +kernel)) rfl
theorem k_515 : Cond.methodLink RX8 348 yX0_strokesDue ∈ lw_all := lw_all_in (List.mem_of_getElem? (i := 515) (by decide +kernel)) rfl
theorem k_516 : Cond.instanceMethod yX0_strokesDue ∈ lw_all := lw_all_in (List.mem_of_getElem? (i := 516) (by decide +kernel)) rfl
theorem k_517 : Cond.selects RX0 yX0_strokesDue yX0_strokesDue ∈ lw_all := lw_all_in (List.mem_of_getElem? (i := 517) (by decide +kernel)) rfl
theorem k_518 : Cond.code yX0_strokesDue cX0_strokesDue 5 (some .int) ∈ lw_all := lw_all_in (List.mem_of_getElem? (i := 518) (by decide +kernel)) rfl
theorem k_520 : Cond.methodLink RX0 68 yX0_isSilent ∈ lw_all := lw_all_in (List.mem_of_getElem? (i := 520) (by decide +kernel)) rfl
theorem k_522 : Cond.instanceMethod yX0_isSilent ∈ lw_all := lw_all_in (List.mem_of_getElem? (i := 522) (by decide +kernel)) rfl
theorem k_523 : Cond.code yX0_isSilent cX0_isSilent 2 (some .boolean) ∈ lw_all := lw_all_in (List.mem_of_getElem? (i := 523) (by decide +kernel)) rfl
theorem k_524 : Cond.methodLink RX0 72 yX0_quarterOf ∈ lw_all := lw_all_in (List.mem_of_getElem? (i := 524) (by decide +kernel)) rfl
theorem k_525 : Cond.static yX0_quarterOf ∈ lw_all := lw_all_in (List.mem_of_getElem? (i := 525) (by decide +kernel)) rfl
theorem k_526 : Cond.code yX0_quarterOf cX0_quarterOf 1 (some .int) ∈ lw_all := lw_all_in (List.mem_of_getElem? (i := 526) (by decide +kernel)) rfl
theorem k_527 : Cond.methodLink RX0 58 yJ9_floorMod_7cf53 ∈ lw_all := lw_all_in (List.mem_of_getElem? (i := 527) (by decide +kernel)) rfl
theorem k_528 : Cond.methodLink RX0 54 yX0_tuneOrNull ∈ lw_all := lw_all_in (List.mem_of_getElem? (i := 528) (by decide +kernel)) rfl
theorem k_530 : Cond.instanceMethod yX0_tuneOrNull ∈ lw_all := lw_all_in (List.mem_of_getElem? (i := 530) (by decide +kernel)) rfl
theorem k_531 : Cond.code yX0_tuneOrNull cX0_tuneOrNull 2 (some (.object "MinsterClock$Drum")) ∈ lw_all := lw_all_in (List.mem_of_getElem? (i := 531) (by decide +kernel)) rfl
theorem k_532 : Cond.methodLink RX0 75 yX0_strokesOfHour ∈ lw_all := lw_all_in (List.mem_of_getElem? (i := 532) (by decide +kernel)) rfl
theorem k_533 : Cond.static yX0_strokesOfHour ∈ lw_all := lw_all_in (List.mem_of_getElem? (i := 533) (by decide +kernel)) rfl
theorem k_534 : Cond.code yX0_strokesOfHour cX0_strokesOfHour 1 (some .int) ∈ lw_all := lw_all_in (List.mem_of_getElem? (i := 534) (by decide +kernel)) rfl
theorem k_535 : Cond.methodLink RX0 78 yX2_pinCount ∈ lw_all := lw_all_in (List.mem_of_getElem? (i := 535) (by decide +kernel)) rfl
theorem k_536 : Cond.instanceMethod yX2_pinCount ∈ lw_all := lw_all_in (List.mem_of_getElem? (i := 536) (by decide +kernel)) rfl
theorem k_537 : Cond.selects RX2 yX2_pinCount yX2_pinCount ∈ lw_all := lw_all_in (List.mem_of_getElem? (i := 537) (by decide +kernel)) rfl
theorem k_538 : Cond.code yX2_pinCount cX2_pinCount 1 (some .int) ∈ lw_all := lw_all_in (List.mem_of_getElem? (i := 538) (by decide +kernel)) rfl
theorem k_539 : Cond.methodLink RX8 354 yX0_ring ∈ lw_all := lw_all_in (List.mem_of_getElem? (i := 539) (by decide +kernel)) rfl
theorem k_540 : Cond.instanceMethod yX0_ring ∈ lw_all := lw_all_in (List.mem_of_getElem? (i := 540) (by decide +kernel)) rfl
theorem k_541 : Cond.selects RX0 yX0_ring yX0_ring ∈ lw_all := lw_all_in (List.mem_of_getElem? (i := 541) (by decide +kernel)) rfl
theorem k_542 : Cond.code yX0_ring cX0_ring 5 none ∈ lw_all := lw_all_in (List.mem_of_getElem? (i := 542) (by decide +kernel)) rfl
theorem k_543 : Cond.methodLink RX0 81 yX2_play ∈ lw_all := lw_all_in (List.mem_of_getElem? (i := 543) (by decide +kernel)) rfl
theorem k_544 : Cond.instanceMethod yX2_play ∈ lw_all := lw_all_in (List.mem_of_getElem? (i := 544) (by decide +kernel)) rfl
theorem k_545 : Cond.selects RX2 yX2_play yX2_play ∈ lw_all := lw_all_in (List.mem_of_getElem? (i := 545) (by decide +kernel)) rfl
theorem k_546 : Cond.code yX2_play cX2_play 4 none ∈ lw_all := lw_all_in (List.mem_of_getElem? (i := 546) (by decide +kernel)) rfl
theorem k_547 : Cond.methodLink RX2 20 yX2_hasPin ∈ lw_all := lw_all_in (List.mem_of_getElem? (i := 547) (by decide +kernel)) rfl
theorem k_549 : Cond.instanceMethod yX2_hasPin ∈ lw_all := lw_all_in (List.mem_of_getElem? (i := 549) (by decide +kernel)) rfl
theorem k_550 : Cond.instantiable RX2 3 ∈ lw_all := lw_all_in (List.mem_of_getElem? (i := 550) (by decide +kernel)) rfl
theorem k_551 : Cond.code yX2_hasPin cX2_hasPin 3 (some .boolean) ∈ lw_all := lw_all_in (List.mem_of_getElem? (i := 551) (by decide +kernel)) rfl
theorem k_552 : Cond.methodLink RX8 272 yX3_greatestMark ∈ lw_all := lw_all_in (List.mem_of_getElem? (i := 552) (by decide +kernel)) rfl
theorem k_553 : Cond.instanceMethod yX3_greatestMark ∈ lw_all := lw_all_in (List.mem_of_getElem? (i := 553) (by decide +kernel)) rfl
theorem k_554 : Cond.selects RX3 yX3_greatestMark yX3_greatestMark ∈ lw_all := lw_all_in (List.mem_of_getElem? (i := 554) (by decide +kernel)) rfl
theorem k_555 : Cond.code yX3_greatestMark cX3_greatestMark 1 (some .int) ∈ lw_all := lw_all_in (List.mem_of_getElem? (i := 555) (by decide +kernel)) rfl
theorem k_556 : Cond.methodLink RX8 357 yX5_keep ∈ lw_all := lw_all_in (List.mem_of_getElem? (i := 556) (by decide +kernel)) rfl
theorem k_557 : Cond.instanceMethod yX5_keep ∈ lw_all := lw_all_in (List.mem_of_getElem? (i := 557) (by decide +kernel)) rfl
theorem k_558 : Cond.selects RX5 yX5_keep yX5_keep ∈ lw_all := lw_all_in (List.mem_of_getElem? (i := 558) (by decide +kernel)) rfl
theorem k_559 : Cond.code yX5_keep cX5_keep 3 none ∈ lw_all := lw_all_in (List.mem_of_getElem? (i := 559) (by decide +kernel)) rfl
theorem k_560 : Cond.methodLink RX8 351 yX3_correct ∈ lw_all := lw_all_in (List.mem_of_getElem? (i := 560) (by decide +kernel)) rfl
theorem k_561 : Cond.instanceMethod yX3_correct ∈ lw_all := lw_all_in (List.mem_of_getElem? (i := 561) (by decide +kernel)) rfl
theorem k_562 : Cond.selects RX3 yX3_correct yX3_correct ∈ lw_all := lw_all_in (List.mem_of_getElem? (i := 562) (by decide +kernel)) rfl
theorem k_563 : Cond.code yX3_correct cX3_correct 2 none ∈ lw_all := lw_all_in (List.mem_of_getElem? (i := 563) (by decide +kernel)) rfl
theorem k_564 : Cond.methodLink RX3 30 Lib.Math.min.name ∈ lw_all := lw_all_in (List.mem_of_getElem? (i := 564) (by decide +kernel)) rfl
theorem k_565 : Cond.methodLink RX3 33 Lib.Math.max.name ∈ lw_all := lw_all_in (List.mem_of_getElem? (i := 565) (by decide +kernel)) rfl
theorem k_566 : Cond.methodLink RX8 269 yX8_countBySeconds ∈ lw_all := lw_all_in (List.mem_of_getElem? (i := 566) (by decide +kernel)) rfl
theorem k_568 : Cond.instanceMethod yX8_countBySeconds ∈ lw_all := lw_all_in (List.mem_of_getElem? (i := 568) (by decide +kernel)) rfl
theorem k_569 : Cond.code yX8_countBySeconds cX8_countBySeconds 6 (some .int) ∈ lw_all := lw_all_in (List.mem_of_getElem? (i := 569) (by decide +kernel)) rfl
theorem k_570 : Cond.methodLink RX8 319 yX4_copyFrom ∈ lw_all := lw_all_in (List.mem_of_getElem? (i := 570) (by decide +kernel)) rfl
theorem k_571 : Cond.instanceMethod yX4_copyFrom ∈ lw_all := lw_all_in (List.mem_of_getElem? (i := 571) (by decide +kernel)) rfl
theorem k_572 : Cond.selects RX4 yX4_copyFrom yX4_copyFrom ∈ lw_all := lw_all_in (List.mem_of_getElem? (i := 572) (by decide +kernel)) rfl
theorem k_573 : Cond.code yX4_copyFrom cX4_copyFrom 2 none ∈ lw_all := lw_all_in (List.mem_of_getElem? (i := 573) (by decide +kernel)) rfl
theorem k_574 : Cond.methodLink RX8 115 yX4_letPass ∈ lw_all := lw_all_in (List.mem_of_getElem? (i := 574) (by decide +kernel)) rfl
theorem k_575 : Cond.instanceMethod yX4_letPass ∈ lw_all := lw_all_in (List.mem_of_getElem? (i := 575) (by decide +kernel)) rfl
theorem k_576 : Cond.selects RX4 yX4_letPass yX4_letPass ∈ lw_all := lw_all_in (List.mem_of_getElem? (i := 576) (by decide +kernel)) rfl
theorem k_577 : Cond.code yX4_letPass cX4_letPass 3 (some .int) ∈ lw_all := lw_all_in (List.mem_of_getElem? (i := 577) (by decide +kernel)) rfl
theorem k_578 : Cond.methodLink RX4 25 yX4_secondsOf ∈ lw_all := lw_all_in (List.mem_of_getElem? (i := 578) (by decide +kernel)) rfl
theorem k_579 : Cond.methodLink RX8 91 yX6_movedByRatios ∈ lw_all := lw_all_in (List.mem_of_getElem? (i := 579) (by decide +kernel)) rfl
theorem k_580 : Cond.instanceMethod yX6_movedByRatios ∈ lw_all := lw_all_in (List.mem_of_getElem? (i := 580) (by decide +kernel)) rfl
theorem k_581 : Cond.selects RX6 yX6_movedByRatios yX6_movedByRatios ∈ lw_all := lw_all_in (List.mem_of_getElem? (i := 581) (by decide +kernel)) rfl
theorem k_582 : Cond.code yX6_movedByRatios cX6_movedByRatios 7 (some .long) ∈ lw_all := lw_all_in (List.mem_of_getElem? (i := 582) (by decide +kernel)) rfl
theorem k_583 : Cond.methodLink RX6 37 yJx4a65c_get_915e3 ∈ lw_all := lw_all_in (List.mem_of_getElem? (i := 583) (by decide +kernel)) rfl
theorem k_584 : Cond.instanceMethod yJx4a65c_get_915e3 ∈ lw_all := lw_all_in (List.mem_of_getElem? (i := 584) (by decide +kernel)) rfl
theorem k_585 : Cond.selects RJx4a65c yJx4a65c_get_915e3 yJx4a65c_get_915e3 ∈ lw_all := lw_all_in (List.mem_of_getElem? (i := 585) (by decide +kernel)) rfl
theorem k_586 : Cond.code yJx4a65c_get_915e3 cJx4a65c_get_915e3 2 (some (.object "java/lang/Object")) ∈ lw_all := lw_all_in (List.mem_of_getElem? (i := 586) (by decide +kernel)) rfl
theorem k_587 : Cond.methodLink RJx4a65c 118 yJ15_checkIndex_7cf53 ∈ lw_all := lw_all_in (List.mem_of_getElem? (i := 587) (by decide +kernel)) rfl
theorem k_588 : Cond.static yJ15_checkIndex_7cf53 ∈ lw_all := lw_all_in (List.mem_of_getElem? (i := 588) (by decide +kernel)) rfl
theorem k_589 : Cond.code yJ15_checkIndex_7cf53 cJ15_checkIndex_7cf53 2 (some .int) ∈ lw_all := lw_all_in (List.mem_of_getElem? (i := 589) (by decide +kernel)) rfl
theorem k_590 : Cond.methodLink RJ15 105 yJ3_checkIndex_8e157 ∈ lw_all := lw_all_in (List.mem_of_getElem? (i := 590) (by decide +kernel)) rfl
theorem k_591 : Cond.static yJ3_checkIndex_8e157 ∈ lw_all := lw_all_in (List.mem_of_getElem? (i := 591) (by decide +kernel)) rfl
theorem k_592 : Cond.code yJ3_checkIndex_8e157 cJ3_checkIndex_8e157 3 (some .int) ∈ lw_all := lw_all_in (List.mem_of_getElem? (i := 592) (by decide +kernel)) rfl
theorem k_593 : Cond.methodLink RJx4a65c 123 yJx4a65c_elementData_915e3 ∈ lw_all := lw_all_in (List.mem_of_getElem? (i := 593) (by decide +kernel)) rfl
theorem k_594 : Cond.instanceMethod yJx4a65c_elementData_915e3 ∈ lw_all := lw_all_in (List.mem_of_getElem? (i := 594) (by decide +kernel)) rfl
theorem k_595 : Cond.selects RJx4a65c yJx4a65c_elementData_915e3 yJx4a65c_elementData_915e3 ∈ lw_all := lw_all_in (List.mem_of_getElem? (i := 595) (by decide +kernel)) rfl
theorem k_596 : Cond.code yJx4a65c_elementData_915e3 cJx4a65c_elementData_915e3 2 (some (.object "java/lang/Object")) ∈ lw_all := lw_all_in (List.mem_of_getElem? (i := 596) (by decide +kernel)) rfl
theorem k_597 : Cond.methodLink RX6 41 yX7_movedWhen ∈ lw_all := lw_all_in (List.mem_of_getElem? (i := 597) (by decide +kernel)) rfl
theorem k_598 : Cond.instanceMethod yX7_movedWhen ∈ lw_all := lw_all_in (List.mem_of_getElem? (i := 598) (by decide +kernel)) rfl
theorem k_599 : Cond.selects RX7 yX7_movedWhen yX7_movedWhen ∈ lw_all := lw_all_in (List.mem_of_getElem? (i := 599) (by decide +kernel)) rfl
theorem k_600 : Cond.code yX7_movedWhen cX7_movedWhen 3 (some .long) ∈ lw_all := lw_all_in (List.mem_of_getElem? (i := 600) (by decide +kernel)) rfl
theorem k_602 : Cond.methodLink RX8 105 yX6_movedByWalking ∈ lw_all := lw_all_in (List.mem_of_getElem? (i := 602) (by decide +kernel)) rfl
theorem k_603 : Cond.instanceMethod yX6_movedByWalking ∈ lw_all := lw_all_in (List.mem_of_getElem? (i := 603) (by decide +kernel)) rfl
theorem k_604 : Cond.selects RX6 yX6_movedByWalking yX6_movedByWalking ∈ lw_all := lw_all_in (List.mem_of_getElem? (i := 604) (by decide +kernel)) rfl
theorem k_605 : Cond.code yX6_movedByWalking cX6_movedByWalking 8 (some .long) ∈ lw_all := lw_all_in (List.mem_of_getElem? (i := 605) (by decide +kernel)) rfl
theorem k_606 : Cond.methodLink RX6 57 yX6_startWalk ∈ lw_all := lw_all_in (List.mem_of_getElem? (i := 606) (by decide +kernel)) rfl
theorem k_608 : Cond.instanceMethod yX6_startWalk ∈ lw_all := lw_all_in (List.mem_of_getElem? (i := 608) (by decide +kernel)) rfl
theorem k_609 : Cond.code yX6_startWalk cX6_startWalk 7 (some .long) ∈ lw_all := lw_all_in (List.mem_of_getElem? (i := 609) (by decide +kernel)) rfl
theorem k_610 : Cond.methodLink RX6 64 yX7_startWalk ∈ lw_all := lw_all_in (List.mem_of_getElem? (i := 610) (by decide +kernel)) rfl
theorem k_611 : Cond.instanceMethod yX7_startWalk ∈ lw_all := lw_all_in (List.mem_of_getElem? (i := 611) (by decide +kernel)) rfl
theorem k_612 : Cond.selects RX7 yX7_startWalk yX7_startWalk ∈ lw_all := lw_all_in (List.mem_of_getElem? (i := 612) (by decide +kernel)) rfl
theorem k_613 : Cond.code yX7_startWalk cX7_startWalk 3 none ∈ lw_all := lw_all_in (List.mem_of_getElem? (i := 613) (by decide +kernel)) rfl
theorem k_614 : Cond.methodLink RX7 29 yX7_movedWhen ∈ lw_all := lw_all_in (List.mem_of_getElem? (i := 614) (by decide +kernel)) rfl
theorem k_615 : Cond.methodLink RX6 60 yX6_walkOneBeat ∈ lw_all := lw_all_in (List.mem_of_getElem? (i := 615) (by decide +kernel)) rfl
theorem k_617 : Cond.instanceMethod yX6_walkOneBeat ∈ lw_all := lw_all_in (List.mem_of_getElem? (i := 617) (by decide +kernel)) rfl
theorem k_618 : Cond.code yX6_walkOneBeat cX6_walkOneBeat 5 (some .long) ∈ lw_all := lw_all_in (List.mem_of_getElem? (i := 618) (by decide +kernel)) rfl
theorem k_619 : Cond.methodLink RX6 67 yX7_walk ∈ lw_all := lw_all_in (List.mem_of_getElem? (i := 619) (by decide +kernel)) rfl
theorem k_620 : Cond.instanceMethod yX7_walk ∈ lw_all := lw_all_in (List.mem_of_getElem? (i := 620) (by decide +kernel)) rfl
theorem k_621 : Cond.selects RX7 yX7_walk yX7_walk ∈ lw_all := lw_all_in (List.mem_of_getElem? (i := 621) (by decide +kernel)) rfl
theorem k_622 : Cond.code yX7_walk cX7_walk 5 (some .long) ∈ lw_all := lw_all_in (List.mem_of_getElem? (i := 622) (by decide +kernel)) rfl
theorem k_623 : Cond.methodLink RL 110 yL_addWheel ∈ lw_all := lw_all_in (List.mem_of_getElem? (i := 623) (by decide +kernel)) rfl
theorem k_624 : Cond.static yL_addWheel ∈ lw_all := lw_all_in (List.mem_of_getElem? (i := 624) (by decide +kernel)) rfl
theorem k_626 : Cond.classLink RL 13 "java/lang/IllegalArgumentException" ∈ lw_all := lw_all_in (List.mem_of_getElem? (i := 626) (by decide +kernel)) rfl
theorem k_627 : Cond.classLink RL 15 "java/lang/IllegalStateException" ∈ lw_all := lw_all_in (List.mem_of_getElem? (i := 627) (by decide +kernel)) rfl
theorem k_628 : Cond.methodLink RL 7 yX8_addWheel ∈ lw_all := lw_all_in (List.mem_of_getElem? (i := 628) (by decide +kernel)) rfl
theorem k_629 : Cond.instanceMethod yX8_addWheel ∈ lw_all := lw_all_in (List.mem_of_getElem? (i := 629) (by decide +kernel)) rfl
theorem k_630 : Cond.selects RX8 yX8_addWheel yX8_addWheel ∈ lw_all := lw_all_in (List.mem_of_getElem? (i := 630) (by decide +kernel)) rfl
theorem k_631 : Cond.code yX8_addWheel cX8_addWheel 3 (some .int) ∈ lw_all := lw_all_in (List.mem_of_getElem? (i := 631) (by decide +kernel)) rfl
theorem k_632 : Cond.methodLink RX8 63 yX8_isWithin ∈ lw_all := lw_all_in (List.mem_of_getElem? (i := 632) (by decide +kernel)) rfl
theorem k_633 : Cond.classLink RX8 67 "java/lang/IllegalArgumentException" ∈ lw_all := lw_all_in (List.mem_of_getElem? (i := 633) (by decide +kernel)) rfl
theorem k_634 : Cond.instantiable "java/lang/IllegalArgumentException" 6 ∈ lw_all := lw_all_in (List.mem_of_getElem? (i := 634) (by decide +kernel)) rfl
theorem k_642 : Cond.selects "java/lang/IllegalArgumentException" ⟨"java/lang/Throwable", "fillInStackTrace", "(I)Ljava/lang/Throwable;"⟩ ⟨"java/lang/Throwable", "fillInStackTrace", "(I)Ljava/lang/Throwable;"⟩ ∈ lw_all := lw_all_in (List.mem_of_getElem? (i := 642) (by decide +kernel)) rfl
theorem k_643 : Cond.selects "java/lang/IllegalArgumentException" ⟨"java/lang/Throwable", "fillInStackTrace", "()Ljava/lang/Throwable;"⟩ ⟨"java/lang/Throwable", "fillInStackTrace", "()Ljava/lang/Throwable;"⟩ ∈ lw_all := lw_all_in (List.mem_of_getElem? (i := 643) (by decide +kernel)) rfl
theorem k_644 : Cond.lays "java/lang/IllegalArgumentException" "java/lang/Throwable" "cause" "Ljava/lang/Throwable;" ∈ lw_all := lw_all_in (List.mem_of_getElem? (i := 644) (by decide +kernel)) rfl
theorem k_645 : Cond.lays "java/lang/Throwable" "java/lang/Throwable" "cause" "Ljava/lang/Throwable;" ∈ lw_all := lw_all_in (List.mem_of_getElem? (i := 645) (by decide +kernel)) rfl
theorem k_646 : Cond.lays "java/lang/IllegalArgumentException" "java/lang/Throwable" "stackTrace" "[Ljava/lang/StackTraceElement;" ∈ lw_all := lw_all_in (List.mem_of_getElem? (i := 646) (by decide +kernel)) rfl
theorem k_647 : Cond.lays "java/lang/Throwable" "java/lang/Throwable" "stackTrace" "[Ljava/lang/StackTraceElement;" ∈ lw_all := lw_all_in (List.mem_of_getElem? (i := 647) (by decide +kernel)) rfl
theorem k_648 : Cond.lays "java/lang/IllegalArgumentException" "java/lang/Throwable" "suppressedExceptions" "Ljava/util/List;" ∈ lw_all := lw_all_in (List.mem_of_getElem? (i := 648) (by decide +kernel)) rfl
theorem k_649 : Cond.lays "java/lang/Throwable" "java/lang/Throwable" "suppressedExceptions" "Ljava/util/List;" ∈ lw_all := lw_all_in (List.mem_of_getElem? (i := 649) (by decide +kernel)) rfl
theorem k_650 : Cond.lays "java/lang/IllegalArgumentException" "java/lang/Throwable" "detailMessage" "Ljava/lang/String;" ∈ lw_all := lw_all_in (List.mem_of_getElem? (i := 650) (by decide +kernel)) rfl
theorem k_651 : Cond.lays "java/lang/Throwable" "java/lang/Throwable" "detailMessage" "Ljava/lang/String;" ∈ lw_all := lw_all_in (List.mem_of_getElem? (i := 651) (by decide +kernel)) rfl
theorem k_652 : Cond.lays "java/lang/IllegalArgumentException" "java/lang/Throwable" "backtrace" "Ljava/lang/Object;" ∈ lw_all := lw_all_in (List.mem_of_getElem? (i := 652) (by decide +kernel)) rfl
theorem k_653 : Cond.lays "java/lang/Throwable" "java/lang/Throwable" "backtrace" "Ljava/lang/Object;" ∈ lw_all := lw_all_in (List.mem_of_getElem? (i := 653) (by decide +kernel)) rfl
theorem k_654 : Cond.fieldLink "java/lang/Throwable" 198 "java/lang/Throwable" "backtrace" "Ljava/lang/Object;" ∈ lw_all := lw_all_in (List.mem_of_getElem? (i := 654) (by decide +kernel)) rfl
theorem k_656 : Cond.instanceMethod ⟨"java/lang/Throwable", "<init>", "()V"⟩ ∈ lw_all := lw_all_in (List.mem_of_getElem? (i := 656) (by decide +kernel)) rfl
theorem k_658 : Cond.methodLink "java/lang/Throwable" 1 objectInit ∈ lw_all := lw_all_in (List.mem_of_getElem? (i := 658) (by decide +kernel)) rfl
theorem k_659 : Cond.fieldLink "java/lang/Throwable" 13 "java/lang/Throwable" "UNASSIGNED_STACK" "[Ljava/lang/StackTraceElement;" ∈ lw_all := lw_all_in (List.mem_of_getElem? (i := 659) (by decide +kernel)) rfl
theorem k_661 : Cond.fieldLink "java/lang/Throwable" 20 "java/lang/Throwable" "SUPPRESSED_SENTINEL" "Ljava/util/List;" ∈ lw_all := lw_all_in (List.mem_of_getElem? (i := 661) (by decide +kernel)) rfl
theorem k_663 : Cond.methodLink "java/lang/Throwable" 27 ⟨"java/lang/Throwable", "fillInStackTrace", "()Ljava/lang/Throwable;"⟩ ∈ lw_all := lw_all_in (List.mem_of_getElem? (i := 663) (by decide +kernel)) rfl
theorem k_664 : Cond.instanceMethod ⟨"java/lang/Throwable", "fillInStackTrace", "()Ljava/lang/Throwable;"⟩ ∈ lw_all := lw_all_in (List.mem_of_getElem? (i := 664) (by decide +kernel)) rfl
theorem k_665 : Cond.sameMethod "java/lang/Throwable" "java/lang/Throwable" "fillInStackTrace" "()Ljava/lang/Throwable;" ∈ lw_all := lw_all_in (List.mem_of_getElem? (i := 665) (by decide +kernel)) rfl
theorem k_666 : Cond.selects "java/lang/ArithmeticException" ⟨"java/lang/Throwable", "fillInStackTrace", "()Ljava/lang/Throwable;"⟩ ⟨"java/lang/Throwable", "fillInStackTrace", "()Ljava/lang/Throwable;"⟩ ∈ lw_all := lw_all_in (List.mem_of_getElem? (i := 666) (by decide +kernel)) rfl
theorem k_667 : Cond.selects RJx00060 ⟨"java/lang/Throwable", "fillInStackTrace", "()Ljava/lang/Throwable;"⟩ ⟨"java/lang/Throwable", "fillInStackTrace", "()Ljava/lang/Throwable;"⟩ ∈ lw_all := lw_all_in (List.mem_of_getElem? (i := 667) (by decide +kernel)) rfl
theorem k_668 : Cond.selects "java/lang/IllegalStateException" ⟨"java/lang/Throwable", "fillInStackTrace", "()Ljava/lang/Throwable;"⟩ ⟨"java/lang/Throwable", "fillInStackTrace", "()Ljava/lang/Throwable;"⟩ ∈ lw_all := lw_all_in (List.mem_of_getElem? (i := 668) (by decide +kernel)) rfl
theorem k_669 : Cond.selects "java/lang/IndexOutOfBoundsException" ⟨"java/lang/Throwable", "fillInStackTrace", "()Ljava/lang/Throwable;"⟩ ⟨"java/lang/Throwable", "fillInStackTrace", "()Ljava/lang/Throwable;"⟩ ∈ lw_all := lw_all_in (List.mem_of_getElem? (i := 669) (by decide +kernel)) rfl
theorem k_670 : Cond.selects "java/util/NoSuchElementException" ⟨"java/lang/Throwable", "fillInStackTrace", "()Ljava/lang/Throwable;"⟩ ⟨"java/lang/Throwable", "fillInStackTrace", "()Ljava/lang/Throwable;"⟩ ∈ lw_all := lw_all_in (List.mem_of_getElem? (i := 670) (by decide +kernel)) rfl
theorem k_672 : Cond.methodLink "java/lang/Throwable" 202 ⟨"java/lang/Throwable", "fillInStackTrace", "(I)Ljava/lang/Throwable;"⟩ ∈ lw_all := lw_all_in (List.mem_of_getElem? (i := 672) (by decide +kernel)) rfl
theorem k_674 : Cond.instanceMethod ⟨"java/lang/Throwable", "fillInStackTrace", "(I)Ljava/lang/Throwable;"⟩ ∈ lw_all := lw_all_in (List.mem_of_getElem? (i := 674) (by decide +kernel)) rfl
theorem k_675 : Cond.instantiable "java/lang/Throwable" 6 ∈ lw_all := lw_all_in (List.mem_of_getElem? (i := 675) (by decide +kernel)) rfl
theorem k_676 : Cond.native ⟨"java/lang/Throwable", "fillInStackTrace", "(I)Ljava/lang/Throwable;"⟩ ∈ lw_all := lw_all_in (List.mem_of_getElem? (i := 676) (by decide +kernel)) rfl
theorem k_678 : Cond.methodLink RX8 71 ⟨"java/lang/IllegalArgumentException", "<init>", "(Ljava/lang/String;)V"⟩ ∈ lw_all := lw_all_in (List.mem_of_getElem? (i := 678) (by decide +kernel)) rfl
theorem k_679 : Cond.instanceMethod ⟨"java/lang/IllegalArgumentException", "<init>", "(Ljava/lang/String;)V"⟩ ∈ lw_all := lw_all_in (List.mem_of_getElem? (i := 679) (by decide +kernel)) rfl
theorem k_681 : Cond.methodLink "java/lang/IllegalArgumentException" 7 ⟨"java/lang/RuntimeException", "<init>", "(Ljava/lang/String;)V"⟩ ∈ lw_all := lw_all_in (List.mem_of_getElem? (i := 681) (by decide +kernel)) rfl
theorem k_682 : Cond.instanceMethod ⟨"java/lang/RuntimeException", "<init>", "(Ljava/lang/String;)V"⟩ ∈ lw_all := lw_all_in (List.mem_of_getElem? (i := 682) (by decide +kernel)) rfl
theorem k_684 : Cond.methodLink "java/lang/RuntimeException" 7 ⟨"java/lang/Exception", "<init>", "(Ljava/lang/String;)V"⟩ ∈ lw_all := lw_all_in (List.mem_of_getElem? (i := 684) (by decide +kernel)) rfl
theorem k_685 : Cond.instanceMethod ⟨"java/lang/Exception", "<init>", "(Ljava/lang/String;)V"⟩ ∈ lw_all := lw_all_in (List.mem_of_getElem? (i := 685) (by decide +kernel)) rfl
theorem k_687 : Cond.methodLink "java/lang/Exception" 7 ⟨"java/lang/Throwable", "<init>", "(Ljava/lang/String;)V"⟩ ∈ lw_all := lw_all_in (List.mem_of_getElem? (i := 687) (by decide +kernel)) rfl
theorem k_688 : Cond.instanceMethod ⟨"java/lang/Throwable", "<init>", "(Ljava/lang/String;)V"⟩ ∈ lw_all := lw_all_in (List.mem_of_getElem? (i := 688) (by decide +kernel)) rfl
theorem k_691 : Cond.fieldLink "java/lang/Throwable" 31 "java/lang/Throwable" "detailMessage" "Ljava/lang/String;" ∈ lw_all := lw_all_in (List.mem_of_getElem? (i := 691) (by decide +kernel)) rfl
theorem k_692 : Cond.fieldLink "java/lang/Throwable" 7 "java/lang/Throwable" "cause" "Ljava/lang/Throwable;" ∈ lw_all := lw_all_in (List.mem_of_getElem? (i := 692) (by decide +kernel)) rfl
theorem k_693 : Cond.fieldLink "java/lang/Throwable" 17 "java/lang/Throwable" "stackTrace" "[Ljava/lang/StackTraceElement;" ∈ lw_all := lw_all_in (List.mem_of_getElem? (i := 693) (by decide +kernel)) rfl
theorem k_694 : Cond.fieldLink "java/lang/Throwable" 24 "java/lang/Throwable" "suppressedExceptions" "Ljava/util/List;" ∈ lw_all := lw_all_in (List.mem_of_getElem? (i := 694) (by decide +kernel)) rfl
theorem k_699 : Cond.lays "java/lang/IllegalArgumentException" "java/lang/Throwable" "depth" "I" ∈ lw_all := lw_all_in (List.mem_of_getElem? (i := 699) (by decide +kernel)) rfl
theorem k_703 : Cond.arrayClass .byte ∈ lw_all := lw_all_in (List.mem_of_getElem? (i := 703) (by decide +kernel)) rfl
theorem k_704 : Cond.classLink RX8 78 "java/lang/IllegalStateException" ∈ lw_all := lw_all_in (List.mem_of_getElem? (i := 704) (by decide +kernel)) rfl
theorem k_705 : Cond.instantiable "java/lang/IllegalStateException" 6 ∈ lw_all := lw_all_in (List.mem_of_getElem? (i := 705) (by decide +kernel)) rfl
theorem k_707 : Cond.selects "java/lang/IllegalStateException" ⟨"java/lang/Throwable", "fillInStackTrace", "(I)Ljava/lang/Throwable;"⟩ ⟨"java/lang/Throwable", "fillInStackTrace", "(I)Ljava/lang/Throwable;"⟩ ∈ lw_all := lw_all_in (List.mem_of_getElem? (i := 707) (by decide +kernel)) rfl
theorem k_708 : Cond.lays "java/lang/IllegalStateException" "java/lang/Throwable" "cause" "Ljava/lang/Throwable;" ∈ lw_all := lw_all_in (List.mem_of_getElem? (i := 708) (by decide +kernel)) rfl
theorem k_709 : Cond.lays "java/lang/IllegalStateException" "java/lang/Throwable" "stackTrace" "[Ljava/lang/StackTraceElement;" ∈ lw_all := lw_all_in (List.mem_of_getElem? (i := 709) (by decide +kernel)) rfl
theorem k_710 : Cond.lays "java/lang/IllegalStateException" "java/lang/Throwable" "suppressedExceptions" "Ljava/util/List;" ∈ lw_all := lw_all_in (List.mem_of_getElem? (i := 710) (by decide +kernel)) rfl
theorem k_711 : Cond.lays "java/lang/IllegalStateException" "java/lang/Throwable" "detailMessage" "Ljava/lang/String;" ∈ lw_all := lw_all_in (List.mem_of_getElem? (i := 711) (by decide +kernel)) rfl
theorem k_712 : Cond.lays "java/lang/IllegalStateException" "java/lang/Throwable" "backtrace" "Ljava/lang/Object;" ∈ lw_all := lw_all_in (List.mem_of_getElem? (i := 712) (by decide +kernel)) rfl
theorem k_714 : Cond.methodLink RX8 82 ⟨"java/lang/IllegalStateException", "<init>", "(Ljava/lang/String;)V"⟩ ∈ lw_all := lw_all_in (List.mem_of_getElem? (i := 714) (by decide +kernel)) rfl
theorem k_715 : Cond.instanceMethod ⟨"java/lang/IllegalStateException", "<init>", "(Ljava/lang/String;)V"⟩ ∈ lw_all := lw_all_in (List.mem_of_getElem? (i := 715) (by decide +kernel)) rfl
theorem k_717 : Cond.methodLink "java/lang/IllegalStateException" 7 ⟨"java/lang/RuntimeException", "<init>", "(Ljava/lang/String;)V"⟩ ∈ lw_all := lw_all_in (List.mem_of_getElem? (i := 717) (by decide +kernel)) rfl
theorem k_718 : Cond.lays "java/lang/IllegalStateException" "java/lang/Throwable" "depth" "I" ∈ lw_all := lw_all_in (List.mem_of_getElem? (i := 718) (by decide +kernel)) rfl
theorem k_720 : Cond.methodLink RX8 83 yX6_add ∈ lw_all := lw_all_in (List.mem_of_getElem? (i := 720) (by decide +kernel)) rfl
theorem k_721 : Cond.instanceMethod yX6_add ∈ lw_all := lw_all_in (List.mem_of_getElem? (i := 721) (by decide +kernel)) rfl
theorem k_722 : Cond.selects RX6 yX6_add yX6_add ∈ lw_all := lw_all_in (List.mem_of_getElem? (i := 722) (by decide +kernel)) rfl
theorem k_723 : Cond.code yX6_add cX6_add 6 (some .int) ∈ lw_all := lw_all_in (List.mem_of_getElem? (i := 723) (by decide +kernel)) rfl
theorem k_724 : Cond.methodLink RX6 29 yX6_teethOf ∈ lw_all := lw_all_in (List.mem_of_getElem? (i := 724) (by decide +kernel)) rfl
theorem k_726 : Cond.instanceMethod yX6_teethOf ∈ lw_all := lw_all_in (List.mem_of_getElem? (i := 726) (by decide +kernel)) rfl
theorem k_727 : Cond.code yX6_teethOf cX6_teethOf 2 (some .int) ∈ lw_all := lw_all_in (List.mem_of_getElem? (i := 727) (by decide +kernel)) rfl
theorem k_728 : Cond.methodLink RX6 51 yX7_toothCount ∈ lw_all := lw_all_in (List.mem_of_getElem? (i := 728) (by decide +kernel)) rfl
theorem k_729 : Cond.instanceMethod yX7_toothCount ∈ lw_all := lw_all_in (List.mem_of_getElem? (i := 729) (by decide +kernel)) rfl
theorem k_730 : Cond.selects RX7 yX7_toothCount yX7_toothCount ∈ lw_all := lw_all_in (List.mem_of_getElem? (i := 730) (by decide +kernel)) rfl
theorem k_731 : Cond.code yX7_toothCount cX7_toothCount 1 (some .int) ∈ lw_all := lw_all_in (List.mem_of_getElem? (i := 731) (by decide +kernel)) rfl
theorem k_732 : Cond.methodLink RX6 33 yX6_movedByRatios ∈ lw_all := lw_all_in (List.mem_of_getElem? (i := 732) (by decide +kernel)) rfl
theorem k_733 : Cond.methodLink RL 123 yL_moved ∈ lw_all := lw_all_in (List.mem_of_getElem? (i := 733) (by decide +kernel)) rfl
theorem k_734 : Cond.static yL_moved ∈ lw_all := lw_all_in (List.mem_of_getElem? (i := 734) (by decide +kernel)) rfl
theorem k_736 : Cond.classLink RL 21 "java/lang/IndexOutOfBoundsException" ∈ lw_all := lw_all_in (List.mem_of_getElem? (i := 736) (by decide +kernel)) rfl
theorem k_737 : Cond.instantiable RJx00060 6 ∈ lw_all := lw_all_in (List.mem_of_getElem? (i := 737) (by decide +kernel)) rfl
theorem k_738 : Cond.instanceMethod yJx00060_init_a7421 ∈ lw_all := lw_all_in (List.mem_of_getElem? (i := 738) (by decide +kernel)) rfl
theorem k_739 : Cond.code yJx00060_init_a7421 cJx00060_init_a7421 2 none ∈ lw_all := lw_all_in (List.mem_of_getElem? (i := 739) (by decide +kernel)) rfl
theorem k_740 : Cond.methodLink RJx00060 7 ⟨"java/lang/IndexOutOfBoundsException", "<init>", "(Ljava/lang/String;)V"⟩ ∈ lw_all := lw_all_in (List.mem_of_getElem? (i := 740) (by decide +kernel)) rfl
theorem k_741 : Cond.instanceMethod ⟨"java/lang/IndexOutOfBoundsException", "<init>", "(Ljava/lang/String;)V"⟩ ∈ lw_all := lw_all_in (List.mem_of_getElem? (i := 741) (by decide +kernel)) rfl
theorem k_743 : Cond.methodLink "java/lang/IndexOutOfBoundsException" 7 ⟨"java/lang/RuntimeException", "<init>", "(Ljava/lang/String;)V"⟩ ∈ lw_all := lw_all_in (List.mem_of_getElem? (i := 743) (by decide +kernel)) rfl
theorem k_744 : Cond.lays RJx00060 "java/lang/Throwable" "backtrace" "Ljava/lang/Object;" ∈ lw_all := lw_all_in (List.mem_of_getElem? (i := 744) (by decide +kernel)) rfl
theorem k_745 : Cond.lays RJx00060 "java/lang/Throwable" "detailMessage" "Ljava/lang/String;" ∈ lw_all := lw_all_in (List.mem_of_getElem? (i := 745) (by decide +kernel)) rfl
theorem k_746 : Cond.lays RJx00060 "java/lang/Throwable" "cause" "Ljava/lang/Throwable;" ∈ lw_all := lw_all_in (List.mem_of_getElem? (i := 746) (by decide +kernel)) rfl
theorem k_747 : Cond.lays RJx00060 "java/lang/Throwable" "stackTrace" "[Ljava/lang/StackTraceElement;" ∈ lw_all := lw_all_in (List.mem_of_getElem? (i := 747) (by decide +kernel)) rfl
theorem k_748 : Cond.lays RJx00060 "java/lang/Throwable" "depth" "I" ∈ lw_all := lw_all_in (List.mem_of_getElem? (i := 748) (by decide +kernel)) rfl
theorem k_749 : Cond.lays RJx00060 "java/lang/Throwable" "suppressedExceptions" "Ljava/util/List;" ∈ lw_all := lw_all_in (List.mem_of_getElem? (i := 749) (by decide +kernel)) rfl
theorem k_754 : Cond.selects RJx00060 ⟨"java/lang/Throwable", "fillInStackTrace", "(I)Ljava/lang/Throwable;"⟩ ⟨"java/lang/Throwable", "fillInStackTrace", "(I)Ljava/lang/Throwable;"⟩ ∈ lw_all := lw_all_in (List.mem_of_getElem? (i := 754) (by decide +kernel)) rfl
theorem k_755 : Cond.instantiable RJ0 4 ∈ lw_all := lw_all_in (List.mem_of_getElem? (i := 755) (by decide +kernel)) rfl
theorem k_756 : Cond.laysFinal RJ0 "java/lang/String" "value" "[B" ∈ lw_all := lw_all_in (List.mem_of_getElem? (i := 756) (by decide +kernel)) rfl
theorem k_758 : Cond.laysFinal RJ0 "java/lang/String" "coder" "B" ∈ lw_all := lw_all_in (List.mem_of_getElem? (i := 758) (by decide +kernel)) rfl
theorem k_760 : Cond.methodLink RL 17 yX8_moved ∈ lw_all := lw_all_in (List.mem_of_getElem? (i := 760) (by decide +kernel)) rfl
theorem k_761 : Cond.instanceMethod yX8_moved ∈ lw_all := lw_all_in (List.mem_of_getElem? (i := 761) (by decide +kernel)) rfl
theorem k_762 : Cond.selects RX8 yX8_moved yX8_moved ∈ lw_all := lw_all_in (List.mem_of_getElem? (i := 762) (by decide +kernel)) rfl
theorem k_763 : Cond.code yX8_moved cX8_moved 2 (some .int) ∈ lw_all := lw_all_in (List.mem_of_getElem? (i := 763) (by decide +kernel)) rfl
theorem k_764 : Cond.methodLink RX8 87 yX8_requireWheel ∈ lw_all := lw_all_in (List.mem_of_getElem? (i := 764) (by decide +kernel)) rfl
theorem k_766 : Cond.instanceMethod yX8_requireWheel ∈ lw_all := lw_all_in (List.mem_of_getElem? (i := 766) (by decide +kernel)) rfl
theorem k_767 : Cond.code yX8_requireWheel cX8_requireWheel 2 none ∈ lw_all := lw_all_in (List.mem_of_getElem? (i := 767) (by decide +kernel)) rfl
theorem k_768 : Cond.classLink RX8 239 "java/lang/IndexOutOfBoundsException" ∈ lw_all := lw_all_in (List.mem_of_getElem? (i := 768) (by decide +kernel)) rfl
theorem k_769 : Cond.instantiable "java/lang/IndexOutOfBoundsException" 6 ∈ lw_all := lw_all_in (List.mem_of_getElem? (i := 769) (by decide +kernel)) rfl
theorem k_771 : Cond.selects "java/lang/IndexOutOfBoundsException" ⟨"java/lang/Throwable", "fillInStackTrace", "(I)Ljava/lang/Throwable;"⟩ ⟨"java/lang/Throwable", "fillInStackTrace", "(I)Ljava/lang/Throwable;"⟩ ∈ lw_all := lw_all_in (List.mem_of_getElem? (i := 771) (by decide +kernel)) rfl
theorem k_772 : Cond.lays "java/lang/IndexOutOfBoundsException" "java/lang/Throwable" "cause" "Ljava/lang/Throwable;" ∈ lw_all := lw_all_in (List.mem_of_getElem? (i := 772) (by decide +kernel)) rfl
theorem k_773 : Cond.lays "java/lang/IndexOutOfBoundsException" "java/lang/Throwable" "stackTrace" "[Ljava/lang/StackTraceElement;" ∈ lw_all := lw_all_in (List.mem_of_getElem? (i := 773) (by decide +kernel)) rfl
theorem k_774 : Cond.lays "java/lang/IndexOutOfBoundsException" "java/lang/Throwable" "suppressedExceptions" "Ljava/util/List;" ∈ lw_all := lw_all_in (List.mem_of_getElem? (i := 774) (by decide +kernel)) rfl
theorem k_775 : Cond.lays "java/lang/IndexOutOfBoundsException" "java/lang/Throwable" "detailMessage" "Ljava/lang/String;" ∈ lw_all := lw_all_in (List.mem_of_getElem? (i := 775) (by decide +kernel)) rfl
theorem k_776 : Cond.lays "java/lang/IndexOutOfBoundsException" "java/lang/Throwable" "backtrace" "Ljava/lang/Object;" ∈ lw_all := lw_all_in (List.mem_of_getElem? (i := 776) (by decide +kernel)) rfl
theorem k_778 : Cond.methodLink RX8 243 ⟨"java/lang/IndexOutOfBoundsException", "<init>", "(Ljava/lang/String;)V"⟩ ∈ lw_all := lw_all_in (List.mem_of_getElem? (i := 778) (by decide +kernel)) rfl
theorem k_779 : Cond.lays "java/lang/IndexOutOfBoundsException" "java/lang/Throwable" "depth" "I" ∈ lw_all := lw_all_in (List.mem_of_getElem? (i := 779) (by decide +kernel)) rfl
theorem k_781 : Cond.methodLink RL 127 yL_wholeTurns ∈ lw_all := lw_all_in (List.mem_of_getElem? (i := 781) (by decide +kernel)) rfl
theorem k_782 : Cond.static yL_wholeTurns ∈ lw_all := lw_all_in (List.mem_of_getElem? (i := 782) (by decide +kernel)) rfl
theorem k_784 : Cond.methodLink RL 23 yX8_wholeTurns ∈ lw_all := lw_all_in (List.mem_of_getElem? (i := 784) (by decide +kernel)) rfl
theorem k_785 : Cond.instanceMethod yX8_wholeTurns ∈ lw_all := lw_all_in (List.mem_of_getElem? (i := 785) (by decide +kernel)) rfl
theorem k_786 : Cond.selects RX8 yX8_wholeTurns yX8_wholeTurns ∈ lw_all := lw_all_in (List.mem_of_getElem? (i := 786) (by decide +kernel)) rfl
theorem k_787 : Cond.code yX8_wholeTurns cX8_wholeTurns 2 (some .int) ∈ lw_all := lw_all_in (List.mem_of_getElem? (i := 787) (by decide +kernel)) rfl
theorem k_788 : Cond.methodLink RX8 95 yX6_turnsByRatios ∈ lw_all := lw_all_in (List.mem_of_getElem? (i := 788) (by decide +kernel)) rfl
theorem k_789 : Cond.instanceMethod yX6_turnsByRatios ∈ lw_all := lw_all_in (List.mem_of_getElem? (i := 789) (by decide +kernel)) rfl
theorem k_790 : Cond.selects RX6 yX6_turnsByRatios yX6_turnsByRatios ∈ lw_all := lw_all_in (List.mem_of_getElem? (i := 790) (by decide +kernel)) rfl
theorem k_791 : Cond.code yX6_turnsByRatios cX6_turnsByRatios 4 (some .long) ∈ lw_all := lw_all_in (List.mem_of_getElem? (i := 791) (by decide +kernel)) rfl
theorem k_793 : Cond.methodLink RL 130 yL_beatsForTurn ∈ lw_all := lw_all_in (List.mem_of_getElem? (i := 793) (by decide +kernel)) rfl
theorem k_794 : Cond.static yL_beatsForTurn ∈ lw_all := lw_all_in (List.mem_of_getElem? (i := 794) (by decide +kernel)) rfl
theorem k_796 : Cond.methodLink RL 26 yX8_beatsForTurn ∈ lw_all := lw_all_in (List.mem_of_getElem? (i := 796) (by decide +kernel)) rfl
theorem k_797 : Cond.instanceMethod yX8_beatsForTurn ∈ lw_all := lw_all_in (List.mem_of_getElem? (i := 797) (by decide +kernel)) rfl
theorem k_798 : Cond.selects RX8 yX8_beatsForTurn yX8_beatsForTurn ∈ lw_all := lw_all_in (List.mem_of_getElem? (i := 798) (by decide +kernel)) rfl
theorem k_799 : Cond.code yX8_beatsForTurn cX8_beatsForTurn 2 (some .double) ∈ lw_all := lw_all_in (List.mem_of_getElem? (i := 799) (by decide +kernel)) rfl
theorem k_800 : Cond.methodLink RX8 98 yX6_beatsOfTurn ∈ lw_all := lw_all_in (List.mem_of_getElem? (i := 800) (by decide +kernel)) rfl
theorem k_801 : Cond.instanceMethod yX6_beatsOfTurn ∈ lw_all := lw_all_in (List.mem_of_getElem? (i := 801) (by decide +kernel)) rfl
theorem k_802 : Cond.selects RX6 yX6_beatsOfTurn yX6_beatsOfTurn ∈ lw_all := lw_all_in (List.mem_of_getElem? (i := 802) (by decide +kernel)) rfl
theorem k_803 : Cond.code yX6_beatsOfTurn cX6_beatsOfTurn 5 (some .double) ∈ lw_all := lw_all_in (List.mem_of_getElem? (i := 803) (by decide +kernel)) rfl
theorem k_804 : Cond.methodLink RX6 54 yX7_leafCount ∈ lw_all := lw_all_in (List.mem_of_getElem? (i := 804) (by decide +kernel)) rfl
theorem k_805 : Cond.instanceMethod yX7_leafCount ∈ lw_all := lw_all_in (List.mem_of_getElem? (i := 805) (by decide +kernel)) rfl
theorem k_806 : Cond.selects RX7 yX7_leafCount yX7_leafCount ∈ lw_all := lw_all_in (List.mem_of_getElem? (i := 806) (by decide +kernel)) rfl
theorem k_807 : Cond.code yX7_leafCount cX7_leafCount 1 (some .int) ∈ lw_all := lw_all_in (List.mem_of_getElem? (i := 807) (by decide +kernel)) rfl
theorem k_808 : Cond.methodLink RL 134 yL_movedAhead ∈ lw_all := lw_all_in (List.mem_of_getElem? (i := 808) (by decide +kernel)) rfl
theorem k_809 : Cond.static yL_movedAhead ∈ lw_all := lw_all_in (List.mem_of_getElem? (i := 809) (by decide +kernel)) rfl
theorem k_811 : Cond.methodLink RL 30 yX8_movedAhead ∈ lw_all := lw_all_in (List.mem_of_getElem? (i := 811) (by decide +kernel)) rfl
theorem k_812 : Cond.instanceMethod yX8_movedAhead ∈ lw_all := lw_all_in (List.mem_of_getElem? (i := 812) (by decide +kernel)) rfl
theorem k_813 : Cond.selects RX8 yX8_movedAhead yX8_movedAhead ∈ lw_all := lw_all_in (List.mem_of_getElem? (i := 813) (by decide +kernel)) rfl
theorem k_814 : Cond.code yX8_movedAhead cX8_movedAhead 3 (some .int) ∈ lw_all := lw_all_in (List.mem_of_getElem? (i := 814) (by decide +kernel)) rfl
theorem k_815 : Cond.methodLink RX8 102 yX8_requireBeats ∈ lw_all := lw_all_in (List.mem_of_getElem? (i := 815) (by decide +kernel)) rfl
theorem k_817 : Cond.instanceMethod yX8_requireBeats ∈ lw_all := lw_all_in (List.mem_of_getElem? (i := 817) (by decide +kernel)) rfl
theorem k_818 : Cond.code yX8_requireBeats cX8_requireBeats 2 none ∈ lw_all := lw_all_in (List.mem_of_getElem? (i := 818) (by decide +kernel)) rfl
theorem k_820 : Cond.methodLink RL 137 yL_movedByBeats ∈ lw_all := lw_all_in (List.mem_of_getElem? (i := 820) (by decide +kernel)) rfl
theorem k_821 : Cond.static yL_movedByBeats ∈ lw_all := lw_all_in (List.mem_of_getElem? (i := 821) (by decide +kernel)) rfl
theorem k_823 : Cond.methodLink RL 33 yX8_movedByBeats ∈ lw_all := lw_all_in (List.mem_of_getElem? (i := 823) (by decide +kernel)) rfl
theorem k_824 : Cond.instanceMethod yX8_movedByBeats ∈ lw_all := lw_all_in (List.mem_of_getElem? (i := 824) (by decide +kernel)) rfl
theorem k_825 : Cond.selects RX8 yX8_movedByBeats yX8_movedByBeats ∈ lw_all := lw_all_in (List.mem_of_getElem? (i := 825) (by decide +kernel)) rfl
theorem k_826 : Cond.code yX8_movedByBeats cX8_movedByBeats 3 (some .int) ∈ lw_all := lw_all_in (List.mem_of_getElem? (i := 826) (by decide +kernel)) rfl
theorem k_827 : Cond.methodLink RL 140 yL_setBeat ∈ lw_all := lw_all_in (List.mem_of_getElem? (i := 827) (by decide +kernel)) rfl
theorem k_828 : Cond.static yL_setBeat ∈ lw_all := lw_all_in (List.mem_of_getElem? (i := 828) (by decide +kernel)) rfl
theorem k_830 : Cond.methodLink RL 36 yX8_setBeat ∈ lw_all := lw_all_in (List.mem_of_getElem? (i := 830) (by decide +kernel)) rfl
theorem k_831 : Cond.instanceMethod yX8_setBeat ∈ lw_all := lw_all_in (List.mem_of_getElem? (i := 831) (by decide +kernel)) rfl
theorem k_832 : Cond.selects RX8 yX8_setBeat yX8_setBeat ∈ lw_all := lw_all_in (List.mem_of_getElem? (i := 832) (by decide +kernel)) rfl
theorem k_833 : Cond.code yX8_setBeat cX8_setBeat 3 (some .int) ∈ lw_all := lw_all_in (List.mem_of_getElem? (i := 833) (by decide +kernel)) rfl
theorem k_835 : Cond.methodLink RX8 111 yX4_change ∈ lw_all := lw_all_in (List.mem_of_getElem? (i := 835) (by decide +kernel)) rfl
theorem k_836 : Cond.instanceMethod yX4_change ∈ lw_all := lw_all_in (List.mem_of_getElem? (i := 836) (by decide +kernel)) rfl
theorem k_837 : Cond.selects RX4 yX4_change yX4_change ∈ lw_all := lw_all_in (List.mem_of_getElem? (i := 837) (by decide +kernel)) rfl
theorem k_838 : Cond.code yX4_change cX4_change 4 (some .int) ∈ lw_all := lw_all_in (List.mem_of_getElem? (i := 838) (by decide +kernel)) rfl
theorem k_839 : Cond.methodLink RL 143 yL_pass ∈ lw_all := lw_all_in (List.mem_of_getElem? (i := 839) (by decide +kernel)) rfl
theorem k_840 : Cond.static yL_pass ∈ lw_all := lw_all_in (List.mem_of_getElem? (i := 840) (by decide +kernel)) rfl
theorem k_842 : Cond.methodLink RL 39 yX8_pass ∈ lw_all := lw_all_in (List.mem_of_getElem? (i := 842) (by decide +kernel)) rfl
theorem k_843 : Cond.instanceMethod yX8_pass ∈ lw_all := lw_all_in (List.mem_of_getElem? (i := 843) (by decide +kernel)) rfl
theorem k_844 : Cond.selects RX8 yX8_pass yX8_pass ∈ lw_all := lw_all_in (List.mem_of_getElem? (i := 844) (by decide +kernel)) rfl
theorem k_845 : Cond.code yX8_pass cX8_pass 2 (some .int) ∈ lw_all := lw_all_in (List.mem_of_getElem? (i := 845) (by decide +kernel)) rfl
theorem k_846 : Cond.methodLink RL 163 yL_owe ∈ lw_all := lw_all_in (List.mem_of_getElem? (i := 846) (by decide +kernel)) rfl
theorem k_847 : Cond.static yL_owe ∈ lw_all := lw_all_in (List.mem_of_getElem? (i := 847) (by decide +kernel)) rfl
theorem k_849 : Cond.methodLink RL 42 yX8_owe ∈ lw_all := lw_all_in (List.mem_of_getElem? (i := 849) (by decide +kernel)) rfl
theorem k_850 : Cond.instanceMethod yX8_owe ∈ lw_all := lw_all_in (List.mem_of_getElem? (i := 850) (by decide +kernel)) rfl
theorem k_851 : Cond.selects RX8 yX8_owe yX8_owe ∈ lw_all := lw_all_in (List.mem_of_getElem? (i := 851) (by decide +kernel)) rfl
theorem k_852 : Cond.code yX8_owe cX8_owe 2 (some .int) ∈ lw_all := lw_all_in (List.mem_of_getElem? (i := 852) (by decide +kernel)) rfl
theorem k_854 : Cond.methodLink RX8 139 yX3_owedSeconds ∈ lw_all := lw_all_in (List.mem_of_getElem? (i := 854) (by decide +kernel)) rfl
theorem k_855 : Cond.instanceMethod yX3_owedSeconds ∈ lw_all := lw_all_in (List.mem_of_getElem? (i := 855) (by decide +kernel)) rfl
theorem k_856 : Cond.selects RX3 yX3_owedSeconds yX3_owedSeconds ∈ lw_all := lw_all_in (List.mem_of_getElem? (i := 856) (by decide +kernel)) rfl
theorem k_857 : Cond.code yX3_owedSeconds cX3_owedSeconds 1 (some .int) ∈ lw_all := lw_all_in (List.mem_of_getElem? (i := 857) (by decide +kernel)) rfl
theorem k_859 : Cond.methodLink RX8 144 yX3_addOwed ∈ lw_all := lw_all_in (List.mem_of_getElem? (i := 859) (by decide +kernel)) rfl
theorem k_860 : Cond.instanceMethod yX3_addOwed ∈ lw_all := lw_all_in (List.mem_of_getElem? (i := 860) (by decide +kernel)) rfl
theorem k_861 : Cond.selects RX3 yX3_addOwed yX3_addOwed ∈ lw_all := lw_all_in (List.mem_of_getElem? (i := 861) (by decide +kernel)) rfl
theorem k_862 : Cond.code yX3_addOwed cX3_addOwed 2 (some .int) ∈ lw_all := lw_all_in (List.mem_of_getElem? (i := 862) (by decide +kernel)) rfl
theorem k_863 : Cond.methodLink RL 166 yL_setBound ∈ lw_all := lw_all_in (List.mem_of_getElem? (i := 863) (by decide +kernel)) rfl
theorem k_864 : Cond.static yL_setBound ∈ lw_all := lw_all_in (List.mem_of_getElem? (i := 864) (by decide +kernel)) rfl
theorem k_866 : Cond.methodLink RL 45 yX8_setBound ∈ lw_all := lw_all_in (List.mem_of_getElem? (i := 866) (by decide +kernel)) rfl
theorem k_867 : Cond.instanceMethod yX8_setBound ∈ lw_all := lw_all_in (List.mem_of_getElem? (i := 867) (by decide +kernel)) rfl
theorem k_868 : Cond.selects RX8 yX8_setBound yX8_setBound ∈ lw_all := lw_all_in (List.mem_of_getElem? (i := 868) (by decide +kernel)) rfl
theorem k_869 : Cond.code yX8_setBound cX8_setBound 2 (some .int) ∈ lw_all := lw_all_in (List.mem_of_getElem? (i := 869) (by decide +kernel)) rfl
theorem k_871 : Cond.methodLink RX8 149 yX3_changeBound ∈ lw_all := lw_all_in (List.mem_of_getElem? (i := 871) (by decide +kernel)) rfl
theorem k_872 : Cond.instanceMethod yX3_changeBound ∈ lw_all := lw_all_in (List.mem_of_getElem? (i := 872) (by decide +kernel)) rfl
theorem k_873 : Cond.selects RX3 yX3_changeBound yX3_changeBound ∈ lw_all := lw_all_in (List.mem_of_getElem? (i := 873) (by decide +kernel)) rfl
theorem k_874 : Cond.code yX3_changeBound cX3_changeBound 3 (some .int) ∈ lw_all := lw_all_in (List.mem_of_getElem? (i := 874) (by decide +kernel)) rfl
theorem k_875 : Cond.methodLink RL 169 yL_setDate ∈ lw_all := lw_all_in (List.mem_of_getElem? (i := 875) (by decide +kernel)) rfl
theorem k_876 : Cond.static yL_setDate ∈ lw_all := lw_all_in (List.mem_of_getElem? (i := 876) (by decide +kernel)) rfl
theorem k_878 : Cond.methodLink RL 48 yX8_setDate ∈ lw_all := lw_all_in (List.mem_of_getElem? (i := 878) (by decide +kernel)) rfl
theorem k_879 : Cond.instanceMethod yX8_setDate ∈ lw_all := lw_all_in (List.mem_of_getElem? (i := 879) (by decide +kernel)) rfl
theorem k_880 : Cond.selects RX8 yX8_setDate yX8_setDate ∈ lw_all := lw_all_in (List.mem_of_getElem? (i := 880) (by decide +kernel)) rfl
theorem k_881 : Cond.code yX8_setDate cX8_setDate 6 (some .int) ∈ lw_all := lw_all_in (List.mem_of_getElem? (i := 881) (by decide +kernel)) rfl
theorem k_882 : Cond.methodLink RX8 152 yX8_requireDate ∈ lw_all := lw_all_in (List.mem_of_getElem? (i := 882) (by decide +kernel)) rfl
theorem k_884 : Cond.instanceMethod yX8_requireDate ∈ lw_all := lw_all_in (List.mem_of_getElem? (i := 884) (by decide +kernel)) rfl
theorem k_885 : Cond.code yX8_requireDate cX8_requireDate 4 none ∈ lw_all := lw_all_in (List.mem_of_getElem? (i := 885) (by decide +kernel)) rfl
theorem k_886 : Cond.methodLink RX8 301 yX1_isDate ∈ lw_all := lw_all_in (List.mem_of_getElem? (i := 886) (by decide +kernel)) rfl
theorem k_887 : Cond.static yX1_isDate ∈ lw_all := lw_all_in (List.mem_of_getElem? (i := 887) (by decide +kernel)) rfl
theorem k_888 : Cond.code yX1_isDate cX1_isDate 3 (some .boolean) ∈ lw_all := lw_all_in (List.mem_of_getElem? (i := 888) (by decide +kernel)) rfl
theorem k_889 : Cond.methodLink RX1 15 yX1_daysOfMonth ∈ lw_all := lw_all_in (List.mem_of_getElem? (i := 889) (by decide +kernel)) rfl
theorem k_890 : Cond.static yX1_daysOfMonth ∈ lw_all := lw_all_in (List.mem_of_getElem? (i := 890) (by decide +kernel)) rfl
theorem k_891 : Cond.code yX1_daysOfMonth cX1_daysOfMonth 2 (some .int) ∈ lw_all := lw_all_in (List.mem_of_getElem? (i := 891) (by decide +kernel)) rfl
theorem k_892 : Cond.fieldLink RX1 66 "MinsterClock$Dates" "DAYS_OF_MONTHS" "[I" ∈ lw_all := lw_all_in (List.mem_of_getElem? (i := 892) (by decide +kernel)) rfl
theorem k_896 : Cond.methodLink RL 189 yL_isLeap ∈ lw_all := lw_all_in (List.mem_of_getElem? (i := 896) (by decide +kernel)) rfl
theorem k_897 : Cond.static yL_isLeap ∈ lw_all := lw_all_in (List.mem_of_getElem? (i := 897) (by decide +kernel)) rfl
theorem k_899 : Cond.methodLink RL 52 yX8_isLeap ∈ lw_all := lw_all_in (List.mem_of_getElem? (i := 899) (by decide +kernel)) rfl
theorem k_900 : Cond.instanceMethod yX8_isLeap ∈ lw_all := lw_all_in (List.mem_of_getElem? (i := 900) (by decide +kernel)) rfl
theorem k_901 : Cond.selects RX8 yX8_isLeap yX8_isLeap ∈ lw_all := lw_all_in (List.mem_of_getElem? (i := 901) (by decide +kernel)) rfl
theorem k_902 : Cond.code yX8_isLeap cX8_isLeap 2 (some .boolean) ∈ lw_all := lw_all_in (List.mem_of_getElem? (i := 902) (by decide +kernel)) rfl
theorem k_904 : Cond.methodLink RX8 180 yX1_hasLeapDay ∈ lw_all := lw_all_in (List.mem_of_getElem? (i := 904) (by decide +kernel)) rfl
theorem k_905 : Cond.methodLink RL 192 yL_numberOf ∈ lw_all := lw_all_in (List.mem_of_getElem? (i := 905) (by decide +kernel)) rfl
theorem k_906 : Cond.static yL_numberOf ∈ lw_all := lw_all_in (List.mem_of_getElem? (i := 906) (by decide +kernel)) rfl
theorem k_908 : Cond.methodLink RL 56 yX8_numberOf ∈ lw_all := lw_all_in (List.mem_of_getElem? (i := 908) (by decide +kernel)) rfl
theorem k_909 : Cond.instanceMethod yX8_numberOf ∈ lw_all := lw_all_in (List.mem_of_getElem? (i := 909) (by decide +kernel)) rfl
theorem k_910 : Cond.selects RX8 yX8_numberOf yX8_numberOf ∈ lw_all := lw_all_in (List.mem_of_getElem? (i := 910) (by decide +kernel)) rfl
theorem k_911 : Cond.code yX8_numberOf cX8_numberOf 4 (some .long) ∈ lw_all := lw_all_in (List.mem_of_getElem? (i := 911) (by decide +kernel)) rfl
theorem k_912 : Cond.methodLink RL 195 yL_numberByCounting ∈ lw_all := lw_all_in (List.mem_of_getElem? (i := 912) (by decide +kernel)) rfl
theorem k_913 : Cond.static yL_numberByCounting ∈ lw_all := lw_all_in (List.mem_of_getElem? (i := 913) (by decide +kernel)) rfl
theorem k_915 : Cond.methodLink RL 60 yX8_numberByCounting ∈ lw_all := lw_all_in (List.mem_of_getElem? (i := 915) (by decide +kernel)) rfl
theorem k_916 : Cond.instanceMethod yX8_numberByCounting ∈ lw_all := lw_all_in (List.mem_of_getElem? (i := 916) (by decide +kernel)) rfl
theorem k_917 : Cond.selects RX8 yX8_numberByCounting yX8_numberByCounting ∈ lw_all := lw_all_in (List.mem_of_getElem? (i := 917) (by decide +kernel)) rfl
theorem k_918 : Cond.code yX8_numberByCounting cX8_numberByCounting 4 (some .long) ∈ lw_all := lw_all_in (List.mem_of_getElem? (i := 918) (by decide +kernel)) rfl
theorem k_919 : Cond.methodLink RX8 184 yX1_numberOneByOne ∈ lw_all := lw_all_in (List.mem_of_getElem? (i := 919) (by decide +kernel)) rfl
theorem k_920 : Cond.static yX1_numberOneByOne ∈ lw_all := lw_all_in (List.mem_of_getElem? (i := 920) (by decide +kernel)) rfl
theorem k_921 : Cond.code yX1_numberOneByOne cX1_numberOneByOne 6 (some .long) ∈ lw_all := lw_all_in (List.mem_of_getElem? (i := 921) (by decide +kernel)) rfl
theorem k_922 : Cond.constantLong RX1 30 (366) ∈ lw_all := lw_all_in (List.mem_of_getElem? (i := 922) (by decide +kernel)) rfl
theorem k_923 : Cond.methodLink RL 198 yL_setSilence ∈ lw_all := lw_all_in (List.mem_of_getElem? (i := 923) (by decide +kernel)) rfl
theorem k_924 : Cond.static yL_setSilence ∈ lw_all := lw_all_in (List.mem_of_getElem? (i := 924) (by decide +kernel)) rfl
theorem k_926 : Cond.methodLink RL 63 yX8_setSilence ∈ lw_all := lw_all_in (List.mem_of_getElem? (i := 926) (by decide +kernel)) rfl
theorem k_927 : Cond.instanceMethod yX8_setSilence ∈ lw_all := lw_all_in (List.mem_of_getElem? (i := 927) (by decide +kernel)) rfl
theorem k_928 : Cond.selects RX8 yX8_setSilence yX8_setSilence ∈ lw_all := lw_all_in (List.mem_of_getElem? (i := 928) (by decide +kernel)) rfl
theorem k_929 : Cond.code yX8_setSilence cX8_setSilence 3 (some .int) ∈ lw_all := lw_all_in (List.mem_of_getElem? (i := 929) (by decide +kernel)) rfl
theorem k_930 : Cond.methodLink RX8 187 yX8_isHour ∈ lw_all := lw_all_in (List.mem_of_getElem? (i := 930) (by decide +kernel)) rfl
theorem k_931 : Cond.static yX8_isHour ∈ lw_all := lw_all_in (List.mem_of_getElem? (i := 931) (by decide +kernel)) rfl
theorem k_932 : Cond.code yX8_isHour cX8_isHour 1 (some .boolean) ∈ lw_all := lw_all_in (List.mem_of_getElem? (i := 932) (by decide +kernel)) rfl
theorem k_934 : Cond.methodLink RX8 192 yX0_changeSilence ∈ lw_all := lw_all_in (List.mem_of_getElem? (i := 934) (by decide +kernel)) rfl
theorem k_935 : Cond.instanceMethod yX0_changeSilence ∈ lw_all := lw_all_in (List.mem_of_getElem? (i := 935) (by decide +kernel)) rfl
theorem k_936 : Cond.selects RX0 yX0_changeSilence yX0_changeSilence ∈ lw_all := lw_all_in (List.mem_of_getElem? (i := 936) (by decide +kernel)) rfl
theorem k_937 : Cond.code yX0_changeSilence cX0_changeSilence 3 (some .int) ∈ lw_all := lw_all_in (List.mem_of_getElem? (i := 937) (by decide +kernel)) rfl
theorem k_938 : Cond.methodLink RL 206 yL_addDrum ∈ lw_all := lw_all_in (List.mem_of_getElem? (i := 938) (by decide +kernel)) rfl
theorem k_939 : Cond.static yL_addDrum ∈ lw_all := lw_all_in (List.mem_of_getElem? (i := 939) (by decide +kernel)) rfl
theorem k_941 : Cond.methodLink RL 66 yX8_addDrum ∈ lw_all := lw_all_in (List.mem_of_getElem? (i := 941) (by decide +kernel)) rfl
theorem k_942 : Cond.instanceMethod yX8_addDrum ∈ lw_all := lw_all_in (List.mem_of_getElem? (i := 942) (by decide +kernel)) rfl
theorem k_943 : Cond.selects RX8 yX8_addDrum yX8_addDrum ∈ lw_all := lw_all_in (List.mem_of_getElem? (i := 943) (by decide +kernel)) rfl
theorem k_944 : Cond.code yX8_addDrum cX8_addDrum 1 (some .int) ∈ lw_all := lw_all_in (List.mem_of_getElem? (i := 944) (by decide +kernel)) rfl
theorem k_945 : Cond.methodLink RX8 199 yX0_drumCount ∈ lw_all := lw_all_in (List.mem_of_getElem? (i := 945) (by decide +kernel)) rfl
theorem k_946 : Cond.instanceMethod yX0_drumCount ∈ lw_all := lw_all_in (List.mem_of_getElem? (i := 946) (by decide +kernel)) rfl
theorem k_947 : Cond.selects RX0 yX0_drumCount yX0_drumCount ∈ lw_all := lw_all_in (List.mem_of_getElem? (i := 947) (by decide +kernel)) rfl
theorem k_948 : Cond.code yX0_drumCount cX0_drumCount 1 (some .int) ∈ lw_all := lw_all_in (List.mem_of_getElem? (i := 948) (by decide +kernel)) rfl
theorem k_949 : Cond.methodLink RX0 39 yJx4a65c_size_8abf5 ∈ lw_all := lw_all_in (List.mem_of_getElem? (i := 949) (by decide +kernel)) rfl
theorem k_951 : Cond.methodLink RX8 204 yX0_makeDrum ∈ lw_all := lw_all_in (List.mem_of_getElem? (i := 951) (by decide +kernel)) rfl
theorem k_952 : Cond.instanceMethod yX0_makeDrum ∈ lw_all := lw_all_in (List.mem_of_getElem? (i := 952) (by decide +kernel)) rfl
theorem k_953 : Cond.selects RX0 yX0_makeDrum yX0_makeDrum ∈ lw_all := lw_all_in (List.mem_of_getElem? (i := 953) (by decide +kernel)) rfl
theorem k_954 : Cond.code yX0_makeDrum cX0_makeDrum 2 (some .int) ∈ lw_all := lw_all_in (List.mem_of_getElem? (i := 954) (by decide +kernel)) rfl
theorem k_955 : Cond.methodLink RX0 43 yX2_init ∈ lw_all := lw_all_in (List.mem_of_getElem? (i := 955) (by decide +kernel)) rfl
theorem k_956 : Cond.instanceMethod yX2_init ∈ lw_all := lw_all_in (List.mem_of_getElem? (i := 956) (by decide +kernel)) rfl
theorem k_957 : Cond.code yX2_init cX2_init 2 none ∈ lw_all := lw_all_in (List.mem_of_getElem? (i := 957) (by decide +kernel)) rfl
theorem k_958 : Cond.methodLink RX2 1 objectInit ∈ lw_all := lw_all_in (List.mem_of_getElem? (i := 958) (by decide +kernel)) rfl
theorem k_959 : Cond.fieldLink RX2 7 "MinsterClock$Drum" "number" "I" ∈ lw_all := lw_all_in (List.mem_of_getElem? (i := 959) (by decide +kernel)) rfl
theorem k_960 : Cond.fieldLink RX2 13 "MinsterClock$Drum" "bellsOfSteps" "[I" ∈ lw_all := lw_all_in (List.mem_of_getElem? (i := 960) (by decide +kernel)) rfl
theorem k_961 : Cond.fieldLink RX2 17 "MinsterClock$Drum" "pins" "I" ∈ lw_all := lw_all_in (List.mem_of_getElem? (i := 961) (by decide +kernel)) rfl
theorem k_962 : Cond.laysFinal RX2 "MinsterClock$Drum" "number" "I" ∈ lw_all := lw_all_in (List.mem_of_getElem? (i := 962) (by decide +kernel)) rfl
theorem k_964 : Cond.laysFinal RX2 "MinsterClock$Drum" "bellsOfSteps" "[I" ∈ lw_all := lw_all_in (List.mem_of_getElem? (i := 964) (by decide +kernel)) rfl
theorem k_966 : Cond.lays RX2 "MinsterClock$Drum" "pins" "I" ∈ lw_all := lw_all_in (List.mem_of_getElem? (i := 966) (by decide +kernel)) rfl
theorem k_969 : Cond.methodLink RX0 46 yJx4a65c_add_9ea2d ∈ lw_all := lw_all_in (List.mem_of_getElem? (i := 969) (by decide +kernel)) rfl
theorem k_970 : Cond.methodLink RL 210 yL_setPin ∈ lw_all := lw_all_in (List.mem_of_getElem? (i := 970) (by decide +kernel)) rfl
theorem k_971 : Cond.static yL_setPin ∈ lw_all := lw_all_in (List.mem_of_getElem? (i := 971) (by decide +kernel)) rfl
theorem k_973 : Cond.methodLink RL 70 yX8_setPin ∈ lw_all := lw_all_in (List.mem_of_getElem? (i := 973) (by decide +kernel)) rfl
theorem k_974 : Cond.instanceMethod yX8_setPin ∈ lw_all := lw_all_in (List.mem_of_getElem? (i := 974) (by decide +kernel)) rfl
theorem k_975 : Cond.selects RX8 yX8_setPin yX8_setPin ∈ lw_all := lw_all_in (List.mem_of_getElem? (i := 975) (by decide +kernel)) rfl
theorem k_976 : Cond.code yX8_setPin cX8_setPin 6 (some .boolean) ∈ lw_all := lw_all_in (List.mem_of_getElem? (i := 976) (by decide +kernel)) rfl
theorem k_977 : Cond.methodLink RX8 207 yX8_requireDrum ∈ lw_all := lw_all_in (List.mem_of_getElem? (i := 977) (by decide +kernel)) rfl
theorem k_979 : Cond.instanceMethod yX8_requireDrum ∈ lw_all := lw_all_in (List.mem_of_getElem? (i := 979) (by decide +kernel)) rfl
theorem k_980 : Cond.code yX8_requireDrum cX8_requireDrum 3 (some (.object "MinsterClock$Drum")) ∈ lw_all := lw_all_in (List.mem_of_getElem? (i := 980) (by decide +kernel)) rfl
theorem k_981 : Cond.methodLink RX8 306 yX0_drumOrNull ∈ lw_all := lw_all_in (List.mem_of_getElem? (i := 981) (by decide +kernel)) rfl
theorem k_982 : Cond.instanceMethod yX0_drumOrNull ∈ lw_all := lw_all_in (List.mem_of_getElem? (i := 982) (by decide +kernel)) rfl
theorem k_983 : Cond.selects RX0 yX0_drumOrNull yX0_drumOrNull ∈ lw_all := lw_all_in (List.mem_of_getElem? (i := 983) (by decide +kernel)) rfl
theorem k_984 : Cond.code yX0_drumOrNull cX0_drumOrNull 2 (some (.object "MinsterClock$Drum")) ∈ lw_all := lw_all_in (List.mem_of_getElem? (i := 984) (by decide +kernel)) rfl
theorem k_985 : Cond.methodLink RX0 50 yJx4a65c_get_915e3 ∈ lw_all := lw_all_in (List.mem_of_getElem? (i := 985) (by decide +kernel)) rfl
theorem k_988 : Cond.methodLink RX8 215 yX2_changePin ∈ lw_all := lw_all_in (List.mem_of_getElem? (i := 988) (by decide +kernel)) rfl
theorem k_989 : Cond.instanceMethod yX2_changePin ∈ lw_all := lw_all_in (List.mem_of_getElem? (i := 989) (by decide +kernel)) rfl
theorem k_990 : Cond.selects RX2 yX2_changePin yX2_changePin ∈ lw_all := lw_all_in (List.mem_of_getElem? (i := 990) (by decide +kernel)) rfl
theorem k_991 : Cond.code yX2_changePin cX2_changePin 5 (some .boolean) ∈ lw_all := lw_all_in (List.mem_of_getElem? (i := 991) (by decide +kernel)) rfl
theorem k_992 : Cond.methodLink RL 214 yL_pins ∈ lw_all := lw_all_in (List.mem_of_getElem? (i := 992) (by decide +kernel)) rfl
theorem k_993 : Cond.static yL_pins ∈ lw_all := lw_all_in (List.mem_of_getElem? (i := 993) (by decide +kernel)) rfl
theorem k_995 : Cond.methodLink RL 74 yX8_pins ∈ lw_all := lw_all_in (List.mem_of_getElem? (i := 995) (by decide +kernel)) rfl
theorem k_996 : Cond.instanceMethod yX8_pins ∈ lw_all := lw_all_in (List.mem_of_getElem? (i := 996) (by decide +kernel)) rfl
theorem k_997 : Cond.selects RX8 yX8_pins yX8_pins ∈ lw_all := lw_all_in (List.mem_of_getElem? (i := 997) (by decide +kernel)) rfl
theorem k_998 : Cond.code yX8_pins cX8_pins 2 (some .int) ∈ lw_all := lw_all_in (List.mem_of_getElem? (i := 998) (by decide +kernel)) rfl
theorem k_999 : Cond.methodLink RX8 219 yX2_pinCount ∈ lw_all := lw_all_in (List.mem_of_getElem? (i := 999) (by decide +kernel)) rfl
theorem k_1000 : Cond.methodLink RL 217 yL_bellAt ∈ lw_all := lw_all_in (List.mem_of_getElem? (i := 1000) (by decide +kernel)) rfl
theorem k_1001 : Cond.static yL_bellAt ∈ lw_all := lw_all_in (List.mem_of_getElem? (i := 1001) (by decide +kernel)) rfl
theorem k_1003 : Cond.classLink RL 80 "java/util/NoSuchElementException" ∈ lw_all := lw_all_in (List.mem_of_getElem? (i := 1003) (by decide +kernel)) rfl
theorem k_1004 : Cond.methodLink RL 77 yX8_bellAt ∈ lw_all := lw_all_in (List.mem_of_getElem? (i := 1004) (by decide +kernel)) rfl
theorem k_1005 : Cond.instanceMethod yX8_bellAt ∈ lw_all := lw_all_in (List.mem_of_getElem? (i := 1005) (by decide +kernel)) rfl
theorem k_1006 : Cond.selects RX8 yX8_bellAt yX8_bellAt ∈ lw_all := lw_all_in (List.mem_of_getElem? (i := 1006) (by decide +kernel)) rfl
theorem k_1007 : Cond.code yX8_bellAt cX8_bellAt 4 (some .int) ∈ lw_all := lw_all_in (List.mem_of_getElem? (i := 1007) (by decide +kernel)) rfl
theorem k_1008 : Cond.classLink RX8 222 "java/util/NoSuchElementException" ∈ lw_all := lw_all_in (List.mem_of_getElem? (i := 1008) (by decide +kernel)) rfl
theorem k_1009 : Cond.instantiable "java/util/NoSuchElementException" 6 ∈ lw_all := lw_all_in (List.mem_of_getElem? (i := 1009) (by decide +kernel)) rfl
theorem k_1011 : Cond.selects "java/util/NoSuchElementException" ⟨"java/lang/Throwable", "fillInStackTrace", "(I)Ljava/lang/Throwable;"⟩ ⟨"java/lang/Throwable", "fillInStackTrace", "(I)Ljava/lang/Throwable;"⟩ ∈ lw_all := lw_all_in (List.mem_of_getElem? (i := 1011) (by decide +kernel)) rfl
theorem k_1012 : Cond.lays "java/util/NoSuchElementException" "java/lang/Throwable" "cause" "Ljava/lang/Throwable;" ∈ lw_all := lw_all_in (List.mem_of_getElem? (i := 1012) (by decide +kernel)) rfl
theorem k_1013 : Cond.lays "java/util/NoSuchElementException" "java/lang/Throwable" "stackTrace" "[Ljava/lang/StackTraceElement;" ∈ lw_all := lw_all_in (List.mem_of_getElem? (i := 1013) (by decide +kernel)) rfl
theorem k_1014 : Cond.lays "java/util/NoSuchElementException" "java/lang/Throwable" "suppressedExceptions" "Ljava/util/List;" ∈ lw_all := lw_all_in (List.mem_of_getElem? (i := 1014) (by decide +kernel)) rfl
theorem k_1015 : Cond.lays "java/util/NoSuchElementException" "java/lang/Throwable" "detailMessage" "Ljava/lang/String;" ∈ lw_all := lw_all_in (List.mem_of_getElem? (i := 1015) (by decide +kernel)) rfl
theorem k_1016 : Cond.lays "java/util/NoSuchElementException" "java/lang/Throwable" "backtrace" "Ljava/lang/Object;" ∈ lw_all := lw_all_in (List.mem_of_getElem? (i := 1016) (by decide +kernel)) rfl
theorem k_1018 : Cond.methodLink RX8 226 ⟨"java/util/NoSuchElementException", "<init>", "(Ljava/lang/String;)V"⟩ ∈ lw_all := lw_all_in (List.mem_of_getElem? (i := 1018) (by decide +kernel)) rfl
theorem k_1019 : Cond.instanceMethod ⟨"java/util/NoSuchElementException", "<init>", "(Ljava/lang/String;)V"⟩ ∈ lw_all := lw_all_in (List.mem_of_getElem? (i := 1019) (by decide +kernel)) rfl
theorem k_1021 : Cond.methodLink "java/util/NoSuchElementException" 13 ⟨"java/lang/RuntimeException", "<init>", "(Ljava/lang/String;)V"⟩ ∈ lw_all := lw_all_in (List.mem_of_getElem? (i := 1021) (by decide +kernel)) rfl
theorem k_1022 : Cond.lays "java/util/NoSuchElementException" "java/lang/Throwable" "depth" "I" ∈ lw_all := lw_all_in (List.mem_of_getElem? (i := 1022) (by decide +kernel)) rfl
theorem k_1024 : Cond.methodLink RX8 227 yX2_bellOfPin ∈ lw_all := lw_all_in (List.mem_of_getElem? (i := 1024) (by decide +kernel)) rfl
theorem k_1025 : Cond.instanceMethod yX2_bellOfPin ∈ lw_all := lw_all_in (List.mem_of_getElem? (i := 1025) (by decide +kernel)) rfl
theorem k_1026 : Cond.selects RX2 yX2_bellOfPin yX2_bellOfPin ∈ lw_all := lw_all_in (List.mem_of_getElem? (i := 1026) (by decide +kernel)) rfl
theorem k_1027 : Cond.code yX2_bellOfPin cX2_bellOfPin 5 (some .int) ∈ lw_all := lw_all_in (List.mem_of_getElem? (i := 1027) (by decide +kernel)) rfl
theorem k_1028 : Cond.methodLink RL 220 yL_setTune ∈ lw_all := lw_all_in (List.mem_of_getElem? (i := 1028) (by decide +kernel)) rfl
theorem k_1029 : Cond.static yL_setTune ∈ lw_all := lw_all_in (List.mem_of_getElem? (i := 1029) (by decide +kernel)) rfl
theorem k_1031 : Cond.methodLink RL 82 yX8_setTune ∈ lw_all := lw_all_in (List.mem_of_getElem? (i := 1031) (by decide +kernel)) rfl
theorem k_1032 : Cond.instanceMethod yX8_setTune ∈ lw_all := lw_all_in (List.mem_of_getElem? (i := 1032) (by decide +kernel)) rfl
theorem k_1033 : Cond.selects RX8 yX8_setTune yX8_setTune ∈ lw_all := lw_all_in (List.mem_of_getElem? (i := 1033) (by decide +kernel)) rfl
theorem k_1034 : Cond.code yX8_setTune cX8_setTune 4 (some .int) ∈ lw_all := lw_all_in (List.mem_of_getElem? (i := 1034) (by decide +kernel)) rfl
theorem k_1036 : Cond.methodLink RX8 232 yX0_changeTune ∈ lw_all := lw_all_in (List.mem_of_getElem? (i := 1036) (by decide +kernel)) rfl
theorem k_1037 : Cond.instanceMethod yX0_changeTune ∈ lw_all := lw_all_in (List.mem_of_getElem? (i := 1037) (by decide +kernel)) rfl
theorem k_1038 : Cond.selects RX0 yX0_changeTune yX0_changeTune ∈ lw_all := lw_all_in (List.mem_of_getElem? (i := 1038) (by decide +kernel)) rfl
theorem k_1039 : Cond.code yX0_changeTune cX0_changeTune 4 (some (.object "MinsterClock$Drum")) ∈ lw_all := lw_all_in (List.mem_of_getElem? (i := 1039) (by decide +kernel)) rfl
theorem k_1040 : Cond.methodLink RX8 236 yX2_ownNumber ∈ lw_all := lw_all_in (List.mem_of_getElem? (i := 1040) (by decide +kernel)) rfl
theorem k_1041 : Cond.instanceMethod yX2_ownNumber ∈ lw_all := lw_all_in (List.mem_of_getElem? (i := 1041) (by decide +kernel)) rfl
theorem k_1042 : Cond.selects RX2 yX2_ownNumber yX2_ownNumber ∈ lw_all := lw_all_in (List.mem_of_getElem? (i := 1042) (by decide +kernel)) rfl
theorem k_1043 : Cond.code yX2_ownNumber cX2_ownNumber 1 (some .int) ∈ lw_all := lw_all_in (List.mem_of_getElem? (i := 1043) (by decide +kernel)) rfl
theorem k_1044 : Cond.methodLink RL 223 yL_strokes ∈ lw_all := lw_all_in (List.mem_of_getElem? (i := 1044) (by decide +kernel)) rfl
theorem k_1045 : Cond.static yL_strokes ∈ lw_all := lw_all_in (List.mem_of_getElem? (i := 1045) (by decide +kernel)) rfl
theorem k_1047 : Cond.methodLink RL 85 yX8_strokes ∈ lw_all := lw_all_in (List.mem_of_getElem? (i := 1047) (by decide +kernel)) rfl
theorem k_1048 : Cond.instanceMethod yX8_strokes ∈ lw_all := lw_all_in (List.mem_of_getElem? (i := 1048) (by decide +kernel)) rfl
theorem k_1049 : Cond.selects RX8 yX8_strokes yX8_strokes ∈ lw_all := lw_all_in (List.mem_of_getElem? (i := 1049) (by decide +kernel)) rfl
theorem k_1050 : Cond.code yX8_strokes cX8_strokes 2 (some .int) ∈ lw_all := lw_all_in (List.mem_of_getElem? (i := 1050) (by decide +kernel)) rfl
theorem k_1052 : Cond.methodLink RX8 244 yX0_strokesOfBell ∈ lw_all := lw_all_in (List.mem_of_getElem? (i := 1052) (by decide +kernel)) rfl
theorem k_1053 : Cond.instanceMethod yX0_strokesOfBell ∈ lw_all := lw_all_in (List.mem_of_getElem? (i := 1053) (by decide +kernel)) rfl
theorem k_1054 : Cond.selects RX0 yX0_strokesOfBell yX0_strokesOfBell ∈ lw_all := lw_all_in (List.mem_of_getElem? (i := 1054) (by decide +kernel)) rfl
theorem k_1055 : Cond.code yX0_strokesOfBell cX0_strokesOfBell 2 (some .int) ∈ lw_all := lw_all_in (List.mem_of_getElem? (i := 1055) (by decide +kernel)) rfl
theorem k_1056 : Cond.methodLink RL 230 yL_markAt ∈ lw_all := lw_all_in (List.mem_of_getElem? (i := 1056) (by decide +kernel)) rfl
theorem k_1057 : Cond.static yL_markAt ∈ lw_all := lw_all_in (List.mem_of_getElem? (i := 1057) (by decide +kernel)) rfl
theorem k_1059 : Cond.methodLink RL 88 yX8_markAt ∈ lw_all := lw_all_in (List.mem_of_getElem? (i := 1059) (by decide +kernel)) rfl
theorem k_1060 : Cond.instanceMethod yX8_markAt ∈ lw_all := lw_all_in (List.mem_of_getElem? (i := 1060) (by decide +kernel)) rfl
theorem k_1061 : Cond.selects RX8 yX8_markAt yX8_markAt ∈ lw_all := lw_all_in (List.mem_of_getElem? (i := 1061) (by decide +kernel)) rfl
theorem k_1062 : Cond.code yX8_markAt cX8_markAt 2 (some .int) ∈ lw_all := lw_all_in (List.mem_of_getElem? (i := 1062) (by decide +kernel)) rfl
theorem k_1063 : Cond.methodLink RX8 250 yX5_keptMarks ∈ lw_all := lw_all_in (List.mem_of_getElem? (i := 1063) (by decide +kernel)) rfl
theorem k_1065 : Cond.methodLink RX8 255 yX5_markOfRank ∈ lw_all := lw_all_in (List.mem_of_getElem? (i := 1065) (by decide +kernel)) rfl
theorem k_1066 : Cond.methodLink RL 233 yL_strokesAt ∈ lw_all := lw_all_in (List.mem_of_getElem? (i := 1066) (by decide +kernel)) rfl
theorem k_1067 : Cond.static yL_strokesAt ∈ lw_all := lw_all_in (List.mem_of_getElem? (i := 1067) (by decide +kernel)) rfl
theorem k_1069 : Cond.methodLink RL 91 yX8_strokesAt ∈ lw_all := lw_all_in (List.mem_of_getElem? (i := 1069) (by decide +kernel)) rfl
theorem k_1070 : Cond.instanceMethod yX8_strokesAt ∈ lw_all := lw_all_in (List.mem_of_getElem? (i := 1070) (by decide +kernel)) rfl
theorem k_1071 : Cond.selects RX8 yX8_strokesAt yX8_strokesAt ∈ lw_all := lw_all_in (List.mem_of_getElem? (i := 1071) (by decide +kernel)) rfl
theorem k_1072 : Cond.code yX8_strokesAt cX8_strokesAt 3 (some .int) ∈ lw_all := lw_all_in (List.mem_of_getElem? (i := 1072) (by decide +kernel)) rfl
theorem k_1073 : Cond.methodLink RX8 258 yX5_rankOfMark ∈ lw_all := lw_all_in (List.mem_of_getElem? (i := 1073) (by decide +kernel)) rfl
theorem k_1074 : Cond.instanceMethod yX5_rankOfMark ∈ lw_all := lw_all_in (List.mem_of_getElem? (i := 1074) (by decide +kernel)) rfl
theorem k_1075 : Cond.selects RX5 yX5_rankOfMark yX5_rankOfMark ∈ lw_all := lw_all_in (List.mem_of_getElem? (i := 1075) (by decide +kernel)) rfl
theorem k_1076 : Cond.code yX5_rankOfMark cX5_rankOfMark 3 (some .int) ∈ lw_all := lw_all_in (List.mem_of_getElem? (i := 1076) (by decide +kernel)) rfl
theorem k_1078 : Cond.methodLink RX8 263 yX5_strokesOfRank ∈ lw_all := lw_all_in (List.mem_of_getElem? (i := 1078) (by decide +kernel)) rfl
theorem k_1079 : Cond.instanceMethod yX5_strokesOfRank ∈ lw_all := lw_all_in (List.mem_of_getElem? (i := 1079) (by decide +kernel)) rfl
theorem k_1080 : Cond.selects RX5 yX5_strokesOfRank yX5_strokesOfRank ∈ lw_all := lw_all_in (List.mem_of_getElem? (i := 1080) (by decide +kernel)) rfl
theorem k_1081 : Cond.code yX5_strokesOfRank cX5_strokesOfRank 2 (some .int) ∈ lw_all := lw_all_in (List.mem_of_getElem? (i := 1081) (by decide +kernel)) rfl
theorem k_1082 : Cond.methodLink RL 236 yL_strokesAhead ∈ lw_all := lw_all_in (List.mem_of_getElem? (i := 1082) (by decide +kernel)) rfl
theorem k_1083 : Cond.static yL_strokesAhead ∈ lw_all := lw_all_in (List.mem_of_getElem? (i := 1083) (by decide +kernel)) rfl
theorem k_1085 : Cond.methodLink RL 94 yX8_strokesAhead ∈ lw_all := lw_all_in (List.mem_of_getElem? (i := 1085) (by decide +kernel)) rfl
theorem k_1086 : Cond.instanceMethod yX8_strokesAhead ∈ lw_all := lw_all_in (List.mem_of_getElem? (i := 1086) (by decide +kernel)) rfl
theorem k_1087 : Cond.selects RX8 yX8_strokesAhead yX8_strokesAhead ∈ lw_all := lw_all_in (List.mem_of_getElem? (i := 1087) (by decide +kernel)) rfl
theorem k_1088 : Cond.code yX8_strokesAhead cX8_strokesAhead 2 (some .int) ∈ lw_all := lw_all_in (List.mem_of_getElem? (i := 1088) (by decide +kernel)) rfl
theorem k_1089 : Cond.methodLink RL 239 yL_strokesByBeats ∈ lw_all := lw_all_in (List.mem_of_getElem? (i := 1089) (by decide +kernel)) rfl
theorem k_1090 : Cond.static yL_strokesByBeats ∈ lw_all := lw_all_in (List.mem_of_getElem? (i := 1090) (by decide +kernel)) rfl
theorem k_1092 : Cond.methodLink RL 97 yX8_strokesByBeats ∈ lw_all := lw_all_in (List.mem_of_getElem? (i := 1092) (by decide +kernel)) rfl
theorem k_1093 : Cond.instanceMethod yX8_strokesByBeats ∈ lw_all := lw_all_in (List.mem_of_getElem? (i := 1093) (by decide +kernel)) rfl
theorem k_1094 : Cond.selects RX8 yX8_strokesByBeats yX8_strokesByBeats ∈ lw_all := lw_all_in (List.mem_of_getElem? (i := 1094) (by decide +kernel)) rfl
theorem k_1095 : Cond.code yX8_strokesByBeats cX8_strokesByBeats 2 (some .int) ∈ lw_all := lw_all_in (List.mem_of_getElem? (i := 1095) (by decide +kernel)) rfl
theorem k_1096 : Cond.methodLink RL 242 yL_struckShare ∈ lw_all := lw_all_in (List.mem_of_getElem? (i := 1096) (by decide +kernel)) rfl
theorem k_1097 : Cond.static yL_struckShare ∈ lw_all := lw_all_in (List.mem_of_getElem? (i := 1097) (by decide +kernel)) rfl
theorem k_1099 : Cond.classLink RL 104 "java/lang/ArithmeticException" ∈ lw_all := lw_all_in (List.mem_of_getElem? (i := 1099) (by decide +kernel)) rfl
theorem k_1100 : Cond.instantiable "java/lang/ArithmeticException" 6 ∈ lw_all := lw_all_in (List.mem_of_getElem? (i := 1100) (by decide +kernel)) rfl
theorem k_1101 : Cond.instanceMethod ⟨"java/lang/ArithmeticException", "<init>", "(Ljava/lang/String;)V"⟩ ∈ lw_all := lw_all_in (List.mem_of_getElem? (i := 1101) (by decide +kernel)) rfl
theorem k_1103 : Cond.methodLink "java/lang/ArithmeticException" 7 ⟨"java/lang/RuntimeException", "<init>", "(Ljava/lang/String;)V"⟩ ∈ lw_all := lw_all_in (List.mem_of_getElem? (i := 1103) (by decide +kernel)) rfl
theorem k_1104 : Cond.lays "java/lang/ArithmeticException" "java/lang/Throwable" "backtrace" "Ljava/lang/Object;" ∈ lw_all := lw_all_in (List.mem_of_getElem? (i := 1104) (by decide +kernel)) rfl
theorem k_1105 : Cond.lays "java/lang/ArithmeticException" "java/lang/Throwable" "detailMessage" "Ljava/lang/String;" ∈ lw_all := lw_all_in (List.mem_of_getElem? (i := 1105) (by decide +kernel)) rfl
theorem k_1106 : Cond.lays "java/lang/ArithmeticException" "java/lang/Throwable" "cause" "Ljava/lang/Throwable;" ∈ lw_all := lw_all_in (List.mem_of_getElem? (i := 1106) (by decide +kernel)) rfl
theorem k_1107 : Cond.lays "java/lang/ArithmeticException" "java/lang/Throwable" "stackTrace" "[Ljava/lang/StackTraceElement;" ∈ lw_all := lw_all_in (List.mem_of_getElem? (i := 1107) (by decide +kernel)) rfl
theorem k_1108 : Cond.lays "java/lang/ArithmeticException" "java/lang/Throwable" "depth" "I" ∈ lw_all := lw_all_in (List.mem_of_getElem? (i := 1108) (by decide +kernel)) rfl
theorem k_1109 : Cond.lays "java/lang/ArithmeticException" "java/lang/Throwable" "suppressedExceptions" "Ljava/util/List;" ∈ lw_all := lw_all_in (List.mem_of_getElem? (i := 1109) (by decide +kernel)) rfl
theorem k_1112 : Cond.selects "java/lang/ArithmeticException" ⟨"java/lang/Throwable", "fillInStackTrace", "(I)Ljava/lang/Throwable;"⟩ ⟨"java/lang/Throwable", "fillInStackTrace", "(I)Ljava/lang/Throwable;"⟩ ∈ lw_all := lw_all_in (List.mem_of_getElem? (i := 1112) (by decide +kernel)) rfl
theorem k_1113 : Cond.methodLink RL 100 yX8_struckShare ∈ lw_all := lw_all_in (List.mem_of_getElem? (i := 1113) (by decide +kernel)) rfl
theorem k_1114 : Cond.instanceMethod yX8_struckShare ∈ lw_all := lw_all_in (List.mem_of_getElem? (i := 1114) (by decide +kernel)) rfl
theorem k_1115 : Cond.selects RX8 yX8_struckShare yX8_struckShare ∈ lw_all := lw_all_in (List.mem_of_getElem? (i := 1115) (by decide +kernel)) rfl
theorem k_1116 : Cond.code yX8_struckShare cX8_struckShare 2 (some .float) ∈ lw_all := lw_all_in (List.mem_of_getElem? (i := 1116) (by decide +kernel)) rfl
theorem k_1117 : Cond.classLink RX8 275 "java/lang/ArithmeticException" ∈ lw_all := lw_all_in (List.mem_of_getElem? (i := 1117) (by decide +kernel)) rfl
theorem k_1119 : Cond.methodLink RX8 279 ⟨"java/lang/ArithmeticException", "<init>", "(Ljava/lang/String;)V"⟩ ∈ lw_all := lw_all_in (List.mem_of_getElem? (i := 1119) (by decide +kernel)) rfl
theorem k_1120 : Cond.classLink RL 107 RX9 ∈ lw_all := lw_all_in (List.mem_of_getElem? (i := 1120) (by decide +kernel)) rfl
theorem k_1121 : Cond.instantiable RX9 26 ∈ lw_all := lw_all_in (List.mem_of_getElem? (i := 1121) (by decide +kernel)) rfl
theorem k_1122 : Cond.methodLink RL 109 yX9_init ∈ lw_all := lw_all_in (List.mem_of_getElem? (i := 1122) (by decide +kernel)) rfl
theorem k_1123 : Cond.instanceMethod yX9_init ∈ lw_all := lw_all_in (List.mem_of_getElem? (i := 1123) (by decide +kernel)) rfl
theorem k_1124 : Cond.code yX9_init cX9_init 2 none ∈ lw_all := lw_all_in (List.mem_of_getElem? (i := 1124) (by decide +kernel)) rfl
theorem k_1125 : Cond.methodLink RX9 1 objectInit ∈ lw_all := lw_all_in (List.mem_of_getElem? (i := 1125) (by decide +kernel)) rfl
theorem k_1126 : Cond.methodLink RX9 52 yX9_number ∈ lw_all := lw_all_in (List.mem_of_getElem? (i := 1126) (by decide +kernel)) rfl
theorem k_1127 : Cond.static yX9_number ∈ lw_all := lw_all_in (List.mem_of_getElem? (i := 1127) (by decide +kernel)) rfl
theorem k_1128 : Cond.code yX9_number cX9_number 6 (some .long) ∈ lw_all := lw_all_in (List.mem_of_getElem? (i := 1128) (by decide +kernel)) rfl
theorem k_1129 : Cond.methodLink RX9 137 yX9_before ∈ lw_all := lw_all_in (List.mem_of_getElem? (i := 1129) (by decide +kernel)) rfl
theorem k_1130 : Cond.static yX9_before ∈ lw_all := lw_all_in (List.mem_of_getElem? (i := 1130) (by decide +kernel)) rfl
theorem k_1131 : Cond.code yX9_before cX9_before 2 (some .long) ∈ lw_all := lw_all_in (List.mem_of_getElem? (i := 1131) (by decide +kernel)) rfl
theorem k_1132 : Cond.constantLong RX9 135 (365) ∈ lw_all := lw_all_in (List.mem_of_getElem? (i := 1132) (by decide +kernel)) rfl
theorem k_1133 : Cond.methodLink RX9 140 yX9_days ∈ lw_all := lw_all_in (List.mem_of_getElem? (i := 1133) (by decide +kernel)) rfl
theorem k_1134 : Cond.static yX9_days ∈ lw_all := lw_all_in (List.mem_of_getElem? (i := 1134) (by decide +kernel)) rfl
theorem k_1135 : Cond.code yX9_days cX9_days 2 (some .int) ∈ lw_all := lw_all_in (List.mem_of_getElem? (i := 1135) (by decide +kernel)) rfl
theorem k_1136 : Cond.methodLink RX9 132 yX9_leaps ∈ lw_all := lw_all_in (List.mem_of_getElem? (i := 1136) (by decide +kernel)) rfl
theorem k_1137 : Cond.static yX9_leaps ∈ lw_all := lw_all_in (List.mem_of_getElem? (i := 1137) (by decide +kernel)) rfl
theorem k_1138 : Cond.code yX9_leaps cX9_leaps 1 (some .boolean) ∈ lw_all := lw_all_in (List.mem_of_getElem? (i := 1138) (by decide +kernel)) rfl
theorem k_1139 : Cond.fieldLink RX9 60 "MinsterClockModel" "thrown" "I" ∈ lw_all := lw_all_in (List.mem_of_getElem? (i := 1139) (by decide +kernel)) rfl
theorem k_1140 : Cond.fieldLink RX9 7 "MinsterClockModel" "wheels" "I" ∈ lw_all := lw_all_in (List.mem_of_getElem? (i := 1140) (by decide +kernel)) rfl
theorem k_1141 : Cond.fieldLink RX9 13 "MinsterClockModel" "numerator" "I" ∈ lw_all := lw_all_in (List.mem_of_getElem? (i := 1141) (by decide +kernel)) rfl
theorem k_1142 : Cond.fieldLink RX9 16 "MinsterClockModel" "denominator" "I" ∈ lw_all := lw_all_in (List.mem_of_getElem? (i := 1142) (by decide +kernel)) rfl
theorem k_1143 : Cond.fieldLink RX9 88 "MinsterClockModel" "rest" "I" ∈ lw_all := lw_all_in (List.mem_of_getElem? (i := 1143) (by decide +kernel)) rfl
theorem k_1144 : Cond.fieldLink RX9 112 "MinsterClockModel" "shown" "I" ∈ lw_all := lw_all_in (List.mem_of_getElem? (i := 1144) (by decide +kernel)) rfl
theorem k_1145 : Cond.fieldLink RX9 121 "MinsterClockModel" "owed" "I" ∈ lw_all := lw_all_in (List.mem_of_getElem? (i := 1145) (by decide +kernel)) rfl
theorem k_1146 : Cond.fieldLink RX9 19 "MinsterClockModel" "bound" "I" ∈ lw_all := lw_all_in (List.mem_of_getElem? (i := 1146) (by decide +kernel)) rfl
theorem k_1147 : Cond.fieldLink RX9 115 "MinsterClockModel" "reached" "I" ∈ lw_all := lw_all_in (List.mem_of_getElem? (i := 1147) (by decide +kernel)) rfl
theorem k_1148 : Cond.fieldLink RX9 168 "MinsterClockModel" "drums" "I" ∈ lw_all := lw_all_in (List.mem_of_getElem? (i := 1148) (by decide +kernel)) rfl
theorem k_1149 : Cond.fieldLink RX9 109 "MinsterClockModel" "struck" "I" ∈ lw_all := lw_all_in (List.mem_of_getElem? (i := 1149) (by decide +kernel)) rfl
theorem k_1150 : Cond.fieldLink RX9 91 "MinsterClockModel" "silentFrom" "I" ∈ lw_all := lw_all_in (List.mem_of_getElem? (i := 1150) (by decide +kernel)) rfl
theorem k_1151 : Cond.fieldLink RX9 94 "MinsterClockModel" "silentTo" "I" ∈ lw_all := lw_all_in (List.mem_of_getElem? (i := 1151) (by decide +kernel)) rfl
theorem k_1152 : Cond.fieldLink RX9 71 "MinsterClockModel" "beats" "J" ∈ lw_all := lw_all_in (List.mem_of_getElem? (i := 1152) (by decide +kernel)) rfl
theorem k_1153 : Cond.fieldLink RX9 56 "MinsterClockModel" "firstDay" "J" ∈ lw_all := lw_all_in (List.mem_of_getElem? (i := 1153) (by decide +kernel)) rfl
theorem k_1154 : Cond.fieldLink RX9 22 "MinsterClockModel" "areQuarters" "Z" ∈ lw_all := lw_all_in (List.mem_of_getElem? (i := 1154) (by decide +kernel)) rfl
theorem k_1155 : Cond.fieldLink RX9 97 "MinsterClockModel" "isReal" "Z" ∈ lw_all := lw_all_in (List.mem_of_getElem? (i := 1155) (by decide +kernel)) rfl
theorem k_1156 : Cond.fieldLink RX9 26 "MinsterClockModel" "teeth" "[I" ∈ lw_all := lw_all_in (List.mem_of_getElem? (i := 1156) (by decide +kernel)) rfl
theorem k_1157 : Cond.fieldLink RX9 30 "MinsterClockModel" "leaves" "[I" ∈ lw_all := lw_all_in (List.mem_of_getElem? (i := 1157) (by decide +kernel)) rfl
theorem k_1158 : Cond.fieldLink RX9 33 "MinsterClockModel" "pins" "[I" ∈ lw_all := lw_all_in (List.mem_of_getElem? (i := 1158) (by decide +kernel)) rfl
theorem k_1159 : Cond.fieldLink RX9 36 "MinsterClockModel" "tune" "[I" ∈ lw_all := lw_all_in (List.mem_of_getElem? (i := 1159) (by decide +kernel)) rfl
theorem k_1160 : Cond.fieldLink RX9 39 "MinsterClockModel" "strokes" "[I" ∈ lw_all := lw_all_in (List.mem_of_getElem? (i := 1160) (by decide +kernel)) rfl
theorem k_1161 : Cond.fieldLink RX9 42 "MinsterClockModel" "logMark" "[I" ∈ lw_all := lw_all_in (List.mem_of_getElem? (i := 1161) (by decide +kernel)) rfl
theorem k_1162 : Cond.fieldLink RX9 45 "MinsterClockModel" "logStrokes" "[I" ∈ lw_all := lw_all_in (List.mem_of_getElem? (i := 1162) (by decide +kernel)) rfl
theorem k_1163 : Cond.fieldLink RX9 48 "MinsterClockModel" "offset" "[J" ∈ lw_all := lw_all_in (List.mem_of_getElem? (i := 1163) (by decide +kernel)) rfl
theorem k_1164 : Cond.lays RX9 "MinsterClockModel" "thrown" "I" ∈ lw_all := lw_all_in (List.mem_of_getElem? (i := 1164) (by decide +kernel)) rfl
theorem k_1166 : Cond.lays RX9 "MinsterClockModel" "wheels" "I" ∈ lw_all := lw_all_in (List.mem_of_getElem? (i := 1166) (by decide +kernel)) rfl
theorem k_1168 : Cond.lays RX9 "MinsterClockModel" "numerator" "I" ∈ lw_all := lw_all_in (List.mem_of_getElem? (i := 1168) (by decide +kernel)) rfl
theorem k_1170 : Cond.lays RX9 "MinsterClockModel" "denominator" "I" ∈ lw_all := lw_all_in (List.mem_of_getElem? (i := 1170) (by decide +kernel)) rfl
theorem k_1172 : Cond.lays RX9 "MinsterClockModel" "rest" "I" ∈ lw_all := lw_all_in (List.mem_of_getElem? (i := 1172) (by decide +kernel)) rfl
theorem k_1174 : Cond.lays RX9 "MinsterClockModel" "shown" "I" ∈ lw_all := lw_all_in (List.mem_of_getElem? (i := 1174) (by decide +kernel)) rfl
theorem k_1176 : Cond.lays RX9 "MinsterClockModel" "owed" "I" ∈ lw_all := lw_all_in (List.mem_of_getElem? (i := 1176) (by decide +kernel)) rfl
theorem k_1178 : Cond.lays RX9 "MinsterClockModel" "bound" "I" ∈ lw_all := lw_all_in (List.mem_of_getElem? (i := 1178) (by decide +kernel)) rfl
theorem k_1180 : Cond.lays RX9 "MinsterClockModel" "reached" "I" ∈ lw_all := lw_all_in (List.mem_of_getElem? (i := 1180) (by decide +kernel)) rfl
theorem k_1182 : Cond.lays RX9 "MinsterClockModel" "drums" "I" ∈ lw_all := lw_all_in (List.mem_of_getElem? (i := 1182) (by decide +kernel)) rfl
theorem k_1184 : Cond.lays RX9 "MinsterClockModel" "struck" "I" ∈ lw_all := lw_all_in (List.mem_of_getElem? (i := 1184) (by decide +kernel)) rfl
theorem k_1186 : Cond.lays RX9 "MinsterClockModel" "silentFrom" "I" ∈ lw_all := lw_all_in (List.mem_of_getElem? (i := 1186) (by decide +kernel)) rfl
theorem k_1188 : Cond.lays RX9 "MinsterClockModel" "silentTo" "I" ∈ lw_all := lw_all_in (List.mem_of_getElem? (i := 1188) (by decide +kernel)) rfl
theorem k_1190 : Cond.lays RX9 "MinsterClockModel" "logged" "I" ∈ lw_all := lw_all_in (List.mem_of_getElem? (i := 1190) (by decide +kernel)) rfl
theorem k_1192 : Cond.lays RX9 "MinsterClockModel" "beats" "J" ∈ lw_all := lw_all_in (List.mem_of_getElem? (i := 1192) (by decide +kernel)) rfl
theorem k_1194 : Cond.lays RX9 "MinsterClockModel" "firstDay" "J" ∈ lw_all := lw_all_in (List.mem_of_getElem? (i := 1194) (by decide +kernel)) rfl
theorem k_1196 : Cond.lays RX9 "MinsterClockModel" "areQuarters" "Z" ∈ lw_all := lw_all_in (List.mem_of_getElem? (i := 1196) (by decide +kernel)) rfl
theorem k_1198 : Cond.lays RX9 "MinsterClockModel" "isReal" "Z" ∈ lw_all := lw_all_in (List.mem_of_getElem? (i := 1198) (by decide +kernel)) rfl
theorem k_1200 : Cond.laysFinal RX9 "MinsterClockModel" "teeth" "[I" ∈ lw_all := lw_all_in (List.mem_of_getElem? (i := 1200) (by decide +kernel)) rfl
theorem k_1202 : Cond.laysFinal RX9 "MinsterClockModel" "leaves" "[I" ∈ lw_all := lw_all_in (List.mem_of_getElem? (i := 1202) (by decide +kernel)) rfl
theorem k_1204 : Cond.laysFinal RX9 "MinsterClockModel" "pins" "[I" ∈ lw_all := lw_all_in (List.mem_of_getElem? (i := 1204) (by decide +kernel)) rfl
theorem k_1206 : Cond.laysFinal RX9 "MinsterClockModel" "tune" "[I" ∈ lw_all := lw_all_in (List.mem_of_getElem? (i := 1206) (by decide +kernel)) rfl
theorem k_1208 : Cond.laysFinal RX9 "MinsterClockModel" "strokes" "[I" ∈ lw_all := lw_all_in (List.mem_of_getElem? (i := 1208) (by decide +kernel)) rfl
theorem k_1210 : Cond.laysFinal RX9 "MinsterClockModel" "logMark" "[I" ∈ lw_all := lw_all_in (List.mem_of_getElem? (i := 1210) (by decide +kernel)) rfl
theorem k_1212 : Cond.laysFinal RX9 "MinsterClockModel" "logStrokes" "[I" ∈ lw_all := lw_all_in (List.mem_of_getElem? (i := 1212) (by decide +kernel)) rfl
theorem k_1214 : Cond.laysFinal RX9 "MinsterClockModel" "offset" "[J" ∈ lw_all := lw_all_in (List.mem_of_getElem? (i := 1214) (by decide +kernel)) rfl
theorem k_1217 : Cond.arrayClass .long ∈ lw_all := lw_all_in (List.mem_of_getElem? (i := 1217) (by decide +kernel)) rfl
theorem k_1218 : Cond.methodLink RL 116 yX9_thrown ∈ lw_all := lw_all_in (List.mem_of_getElem? (i := 1218) (by decide +kernel)) rfl
theorem k_1219 : Cond.instanceMethod yX9_thrown ∈ lw_all := lw_all_in (List.mem_of_getElem? (i := 1219) (by decide +kernel)) rfl
theorem k_1220 : Cond.selects RX9 yX9_thrown yX9_thrown ∈ lw_all := lw_all_in (List.mem_of_getElem? (i := 1220) (by decide +kernel)) rfl
theorem k_1221 : Cond.code yX9_thrown cX9_thrown 1 (some .int) ∈ lw_all := lw_all_in (List.mem_of_getElem? (i := 1221) (by decide +kernel)) rfl
theorem k_1222 : Cond.methodLink RL 115 yX9_addWheel ∈ lw_all := lw_all_in (List.mem_of_getElem? (i := 1222) (by decide +kernel)) rfl
theorem k_1223 : Cond.instanceMethod yX9_addWheel ∈ lw_all := lw_all_in (List.mem_of_getElem? (i := 1223) (by decide +kernel)) rfl
theorem k_1224 : Cond.selects RX9 yX9_addWheel yX9_addWheel ∈ lw_all := lw_all_in (List.mem_of_getElem? (i := 1224) (by decide +kernel)) rfl
theorem k_1225 : Cond.code yX9_addWheel cX9_addWheel 3 (some .int) ∈ lw_all := lw_all_in (List.mem_of_getElem? (i := 1225) (by decide +kernel)) rfl
theorem k_1226 : Cond.methodLink RX9 63 yX9_isIn ∈ lw_all := lw_all_in (List.mem_of_getElem? (i := 1226) (by decide +kernel)) rfl
theorem k_1227 : Cond.static yX9_isIn ∈ lw_all := lw_all_in (List.mem_of_getElem? (i := 1227) (by decide +kernel)) rfl
theorem k_1228 : Cond.code yX9_isIn cX9_isIn 3 (some .boolean) ∈ lw_all := lw_all_in (List.mem_of_getElem? (i := 1228) (by decide +kernel)) rfl
theorem k_1229 : Cond.methodLink RX9 67 yX9_fail ∈ lw_all := lw_all_in (List.mem_of_getElem? (i := 1229) (by decide +kernel)) rfl
theorem k_1231 : Cond.instanceMethod yX9_fail ∈ lw_all := lw_all_in (List.mem_of_getElem? (i := 1231) (by decide +kernel)) rfl
theorem k_1232 : Cond.code yX9_fail cX9_fail 2 (some .int) ∈ lw_all := lw_all_in (List.mem_of_getElem? (i := 1232) (by decide +kernel)) rfl
theorem k_1233 : Cond.methodLink RX9 74 yX9_movedAt ∈ lw_all := lw_all_in (List.mem_of_getElem? (i := 1233) (by decide +kernel)) rfl
theorem k_1235 : Cond.instanceMethod yX9_movedAt ∈ lw_all := lw_all_in (List.mem_of_getElem? (i := 1235) (by decide +kernel)) rfl
theorem k_1236 : Cond.code yX9_movedAt cX9_movedAt 7 (some .long) ∈ lw_all := lw_all_in (List.mem_of_getElem? (i := 1236) (by decide +kernel)) rfl
theorem k_1237 : Cond.methodLink RL 122 yX9_wheels ∈ lw_all := lw_all_in (List.mem_of_getElem? (i := 1237) (by decide +kernel)) rfl
theorem k_1238 : Cond.instanceMethod yX9_wheels ∈ lw_all := lw_all_in (List.mem_of_getElem? (i := 1238) (by decide +kernel)) rfl
theorem k_1239 : Cond.selects RX9 yX9_wheels yX9_wheels ∈ lw_all := lw_all_in (List.mem_of_getElem? (i := 1239) (by decide +kernel)) rfl
theorem k_1240 : Cond.code yX9_wheels cX9_wheels 1 (some .int) ∈ lw_all := lw_all_in (List.mem_of_getElem? (i := 1240) (by decide +kernel)) rfl
theorem k_1241 : Cond.methodLink RL 126 yX9_moved ∈ lw_all := lw_all_in (List.mem_of_getElem? (i := 1241) (by decide +kernel)) rfl
theorem k_1242 : Cond.instanceMethod yX9_moved ∈ lw_all := lw_all_in (List.mem_of_getElem? (i := 1242) (by decide +kernel)) rfl
theorem k_1243 : Cond.selects RX9 yX9_moved yX9_moved ∈ lw_all := lw_all_in (List.mem_of_getElem? (i := 1243) (by decide +kernel)) rfl
theorem k_1244 : Cond.code yX9_moved cX9_moved 2 (some .int) ∈ lw_all := lw_all_in (List.mem_of_getElem? (i := 1244) (by decide +kernel)) rfl
theorem k_1245 : Cond.methodLink RX9 78 yX9_noWheel ∈ lw_all := lw_all_in (List.mem_of_getElem? (i := 1245) (by decide +kernel)) rfl
theorem k_1247 : Cond.instanceMethod yX9_noWheel ∈ lw_all := lw_all_in (List.mem_of_getElem? (i := 1247) (by decide +kernel)) rfl
theorem k_1248 : Cond.code yX9_noWheel cX9_noWheel 2 (some .boolean) ∈ lw_all := lw_all_in (List.mem_of_getElem? (i := 1248) (by decide +kernel)) rfl
theorem k_1249 : Cond.methodLink RL 129 yX9_wholeTurns ∈ lw_all := lw_all_in (List.mem_of_getElem? (i := 1249) (by decide +kernel)) rfl
theorem k_1250 : Cond.instanceMethod yX9_wholeTurns ∈ lw_all := lw_all_in (List.mem_of_getElem? (i := 1250) (by decide +kernel)) rfl
theorem k_1251 : Cond.selects RX9 yX9_wholeTurns yX9_wholeTurns ∈ lw_all := lw_all_in (List.mem_of_getElem? (i := 1251) (by decide +kernel)) rfl
theorem k_1252 : Cond.code yX9_wholeTurns cX9_wholeTurns 2 (some .int) ∈ lw_all := lw_all_in (List.mem_of_getElem? (i := 1252) (by decide +kernel)) rfl
theorem k_1253 : Cond.methodLink RL 133 yX9_beatsForTurn ∈ lw_all := lw_all_in (List.mem_of_getElem? (i := 1253) (by decide +kernel)) rfl
theorem k_1254 : Cond.instanceMethod yX9_beatsForTurn ∈ lw_all := lw_all_in (List.mem_of_getElem? (i := 1254) (by decide +kernel)) rfl
theorem k_1255 : Cond.selects RX9 yX9_beatsForTurn yX9_beatsForTurn ∈ lw_all := lw_all_in (List.mem_of_getElem? (i := 1255) (by decide +kernel)) rfl
theorem k_1256 : Cond.code yX9_beatsForTurn cX9_beatsForTurn 5 (some .double) ∈ lw_all := lw_all_in (List.mem_of_getElem? (i := 1256) (by decide +kernel)) rfl
theorem k_1257 : Cond.constantDouble RX9 82 (4629137466983448576) ∈ lw_all := lw_all_in (List.mem_of_getElem? (i := 1257) (by decide +kernel)) rfl
theorem k_1258 : Cond.methodLink RL 136 yX9_movedAhead ∈ lw_all := lw_all_in (List.mem_of_getElem? (i := 1258) (by decide +kernel)) rfl
theorem k_1259 : Cond.instanceMethod yX9_movedAhead ∈ lw_all := lw_all_in (List.mem_of_getElem? (i := 1259) (by decide +kernel)) rfl
theorem k_1260 : Cond.selects RX9 yX9_movedAhead yX9_movedAhead ∈ lw_all := lw_all_in (List.mem_of_getElem? (i := 1260) (by decide +kernel)) rfl
theorem k_1261 : Cond.code yX9_movedAhead cX9_movedAhead 3 (some .int) ∈ lw_all := lw_all_in (List.mem_of_getElem? (i := 1261) (by decide +kernel)) rfl
theorem k_1262 : Cond.methodLink RL 139 yX9_movedByBeats ∈ lw_all := lw_all_in (List.mem_of_getElem? (i := 1262) (by decide +kernel)) rfl
theorem k_1263 : Cond.instanceMethod yX9_movedByBeats ∈ lw_all := lw_all_in (List.mem_of_getElem? (i := 1263) (by decide +kernel)) rfl
theorem k_1264 : Cond.selects RX9 yX9_movedByBeats yX9_movedByBeats ∈ lw_all := lw_all_in (List.mem_of_getElem? (i := 1264) (by decide +kernel)) rfl
theorem k_1265 : Cond.code yX9_movedByBeats cX9_movedByBeats 3 (some .int) ∈ lw_all := lw_all_in (List.mem_of_getElem? (i := 1265) (by decide +kernel)) rfl
theorem k_1266 : Cond.methodLink RX9 84 yX9_movedAhead ∈ lw_all := lw_all_in (List.mem_of_getElem? (i := 1266) (by decide +kernel)) rfl
theorem k_1267 : Cond.methodLink RL 142 yX9_setBeat ∈ lw_all := lw_all_in (List.mem_of_getElem? (i := 1267) (by decide +kernel)) rfl
theorem k_1268 : Cond.instanceMethod yX9_setBeat ∈ lw_all := lw_all_in (List.mem_of_getElem? (i := 1268) (by decide +kernel)) rfl
theorem k_1269 : Cond.selects RX9 yX9_setBeat yX9_setBeat ∈ lw_all := lw_all_in (List.mem_of_getElem? (i := 1269) (by decide +kernel)) rfl
theorem k_1270 : Cond.code yX9_setBeat cX9_setBeat 4 (some .int) ∈ lw_all := lw_all_in (List.mem_of_getElem? (i := 1270) (by decide +kernel)) rfl
theorem k_1271 : Cond.methodLink RL 145 yX9_pass ∈ lw_all := lw_all_in (List.mem_of_getElem? (i := 1271) (by decide +kernel)) rfl
theorem k_1272 : Cond.instanceMethod yX9_pass ∈ lw_all := lw_all_in (List.mem_of_getElem? (i := 1272) (by decide +kernel)) rfl
theorem k_1273 : Cond.selects RX9 yX9_pass yX9_pass ∈ lw_all := lw_all_in (List.mem_of_getElem? (i := 1273) (by decide +kernel)) rfl
theorem k_1274 : Cond.code yX9_pass cX9_pass 4 (some .int) ∈ lw_all := lw_all_in (List.mem_of_getElem? (i := 1274) (by decide +kernel)) rfl
theorem k_1275 : Cond.methodLink RX9 124 yX9_seconds ∈ lw_all := lw_all_in (List.mem_of_getElem? (i := 1275) (by decide +kernel)) rfl
theorem k_1277 : Cond.instanceMethod yX9_seconds ∈ lw_all := lw_all_in (List.mem_of_getElem? (i := 1277) (by decide +kernel)) rfl
theorem k_1278 : Cond.code yX9_seconds cX9_seconds 2 (some .long) ∈ lw_all := lw_all_in (List.mem_of_getElem? (i := 1278) (by decide +kernel)) rfl
theorem k_1279 : Cond.methodLink RX9 128 yX9_goes ∈ lw_all := lw_all_in (List.mem_of_getElem? (i := 1279) (by decide +kernel)) rfl
theorem k_1281 : Cond.instanceMethod yX9_goes ∈ lw_all := lw_all_in (List.mem_of_getElem? (i := 1281) (by decide +kernel)) rfl
theorem k_1282 : Cond.code yX9_goes cX9_goes 8 (some .int) ∈ lw_all := lw_all_in (List.mem_of_getElem? (i := 1282) (by decide +kernel)) rfl
theorem k_1283 : Cond.methodLink RX9 118 yX9_strikes ∈ lw_all := lw_all_in (List.mem_of_getElem? (i := 1283) (by decide +kernel)) rfl
theorem k_1285 : Cond.instanceMethod yX9_strikes ∈ lw_all := lw_all_in (List.mem_of_getElem? (i := 1285) (by decide +kernel)) rfl
theorem k_1286 : Cond.code yX9_strikes cX9_strikes 5 (some .int) ∈ lw_all := lw_all_in (List.mem_of_getElem? (i := 1286) (by decide +kernel)) rfl
theorem k_1287 : Cond.methodLink RX9 103 yX9_isSilent ∈ lw_all := lw_all_in (List.mem_of_getElem? (i := 1287) (by decide +kernel)) rfl
theorem k_1289 : Cond.instanceMethod yX9_isSilent ∈ lw_all := lw_all_in (List.mem_of_getElem? (i := 1289) (by decide +kernel)) rfl
theorem k_1290 : Cond.code yX9_isSilent cX9_isSilent 2 (some .boolean) ∈ lw_all := lw_all_in (List.mem_of_getElem? (i := 1290) (by decide +kernel)) rfl
theorem k_1291 : Cond.methodLink RX9 100 yX9_rings ∈ lw_all := lw_all_in (List.mem_of_getElem? (i := 1291) (by decide +kernel)) rfl
theorem k_1293 : Cond.instanceMethod yX9_rings ∈ lw_all := lw_all_in (List.mem_of_getElem? (i := 1293) (by decide +kernel)) rfl
theorem k_1294 : Cond.code yX9_rings cX9_rings 3 (some .int) ∈ lw_all := lw_all_in (List.mem_of_getElem? (i := 1294) (by decide +kernel)) rfl
theorem k_1295 : Cond.methodLink RX9 106 yX9_plays ∈ lw_all := lw_all_in (List.mem_of_getElem? (i := 1295) (by decide +kernel)) rfl
theorem k_1297 : Cond.instanceMethod yX9_plays ∈ lw_all := lw_all_in (List.mem_of_getElem? (i := 1297) (by decide +kernel)) rfl
theorem k_1298 : Cond.code yX9_plays cX9_plays 5 (some .int) ∈ lw_all := lw_all_in (List.mem_of_getElem? (i := 1298) (by decide +kernel)) rfl
theorem k_1299 : Cond.methodLink RL 150 yX9_beats ∈ lw_all := lw_all_in (List.mem_of_getElem? (i := 1299) (by decide +kernel)) rfl
theorem k_1300 : Cond.instanceMethod yX9_beats ∈ lw_all := lw_all_in (List.mem_of_getElem? (i := 1300) (by decide +kernel)) rfl
theorem k_1301 : Cond.selects RX9 yX9_beats yX9_beats ∈ lw_all := lw_all_in (List.mem_of_getElem? (i := 1301) (by decide +kernel)) rfl
theorem k_1302 : Cond.code yX9_beats cX9_beats 1 (some .long) ∈ lw_all := lw_all_in (List.mem_of_getElem? (i := 1302) (by decide +kernel)) rfl
theorem k_1303 : Cond.methodLink RL 154 yX9_shown ∈ lw_all := lw_all_in (List.mem_of_getElem? (i := 1303) (by decide +kernel)) rfl
theorem k_1304 : Cond.instanceMethod yX9_shown ∈ lw_all := lw_all_in (List.mem_of_getElem? (i := 1304) (by decide +kernel)) rfl
theorem k_1305 : Cond.selects RX9 yX9_shown yX9_shown ∈ lw_all := lw_all_in (List.mem_of_getElem? (i := 1305) (by decide +kernel)) rfl
theorem k_1306 : Cond.code yX9_shown cX9_shown 1 (some .int) ∈ lw_all := lw_all_in (List.mem_of_getElem? (i := 1306) (by decide +kernel)) rfl
theorem k_1307 : Cond.methodLink RL 158 yX9_hour ∈ lw_all := lw_all_in (List.mem_of_getElem? (i := 1307) (by decide +kernel)) rfl
theorem k_1308 : Cond.instanceMethod yX9_hour ∈ lw_all := lw_all_in (List.mem_of_getElem? (i := 1308) (by decide +kernel)) rfl
theorem k_1309 : Cond.selects RX9 yX9_hour yX9_hour ∈ lw_all := lw_all_in (List.mem_of_getElem? (i := 1309) (by decide +kernel)) rfl
theorem k_1310 : Cond.code yX9_hour cX9_hour 1 (some .int) ∈ lw_all := lw_all_in (List.mem_of_getElem? (i := 1310) (by decide +kernel)) rfl
theorem k_1311 : Cond.methodLink RL 162 yX9_minute ∈ lw_all := lw_all_in (List.mem_of_getElem? (i := 1311) (by decide +kernel)) rfl
theorem k_1312 : Cond.instanceMethod yX9_minute ∈ lw_all := lw_all_in (List.mem_of_getElem? (i := 1312) (by decide +kernel)) rfl
theorem k_1313 : Cond.selects RX9 yX9_minute yX9_minute ∈ lw_all := lw_all_in (List.mem_of_getElem? (i := 1313) (by decide +kernel)) rfl
theorem k_1314 : Cond.code yX9_minute cX9_minute 1 (some .int) ∈ lw_all := lw_all_in (List.mem_of_getElem? (i := 1314) (by decide +kernel)) rfl
theorem k_1315 : Cond.methodLink RL 165 yX9_owe ∈ lw_all := lw_all_in (List.mem_of_getElem? (i := 1315) (by decide +kernel)) rfl
theorem k_1316 : Cond.instanceMethod yX9_owe ∈ lw_all := lw_all_in (List.mem_of_getElem? (i := 1316) (by decide +kernel)) rfl
theorem k_1317 : Cond.selects RX9 yX9_owe yX9_owe ∈ lw_all := lw_all_in (List.mem_of_getElem? (i := 1317) (by decide +kernel)) rfl
theorem k_1318 : Cond.code yX9_owe cX9_owe 2 (some .int) ∈ lw_all := lw_all_in (List.mem_of_getElem? (i := 1318) (by decide +kernel)) rfl
theorem k_1319 : Cond.methodLink RL 168 yX9_setBound ∈ lw_all := lw_all_in (List.mem_of_getElem? (i := 1319) (by decide +kernel)) rfl
theorem k_1320 : Cond.instanceMethod yX9_setBound ∈ lw_all := lw_all_in (List.mem_of_getElem? (i := 1320) (by decide +kernel)) rfl
theorem k_1321 : Cond.selects RX9 yX9_setBound yX9_setBound ∈ lw_all := lw_all_in (List.mem_of_getElem? (i := 1321) (by decide +kernel)) rfl
theorem k_1322 : Cond.code yX9_setBound cX9_setBound 3 (some .int) ∈ lw_all := lw_all_in (List.mem_of_getElem? (i := 1322) (by decide +kernel)) rfl
theorem k_1323 : Cond.methodLink RL 172 yX9_setDate ∈ lw_all := lw_all_in (List.mem_of_getElem? (i := 1323) (by decide +kernel)) rfl
theorem k_1324 : Cond.instanceMethod yX9_setDate ∈ lw_all := lw_all_in (List.mem_of_getElem? (i := 1324) (by decide +kernel)) rfl
theorem k_1325 : Cond.selects RX9 yX9_setDate yX9_setDate ∈ lw_all := lw_all_in (List.mem_of_getElem? (i := 1325) (by decide +kernel)) rfl
theorem k_1326 : Cond.code yX9_setDate cX9_setDate 4 (some .int) ∈ lw_all := lw_all_in (List.mem_of_getElem? (i := 1326) (by decide +kernel)) rfl
theorem k_1327 : Cond.methodLink RX9 143 yX9_isDate ∈ lw_all := lw_all_in (List.mem_of_getElem? (i := 1327) (by decide +kernel)) rfl
theorem k_1328 : Cond.static yX9_isDate ∈ lw_all := lw_all_in (List.mem_of_getElem? (i := 1328) (by decide +kernel)) rfl
theorem k_1329 : Cond.code yX9_isDate cX9_isDate 3 (some .boolean) ∈ lw_all := lw_all_in (List.mem_of_getElem? (i := 1329) (by decide +kernel)) rfl
theorem k_1330 : Cond.constant RX9 146 (86400) ∈ lw_all := lw_all_in (List.mem_of_getElem? (i := 1330) (by decide +kernel)) rfl
theorem k_1331 : Cond.methodLink RX9 147 yX9_weekday ∈ lw_all := lw_all_in (List.mem_of_getElem? (i := 1331) (by decide +kernel)) rfl
theorem k_1332 : Cond.instanceMethod yX9_weekday ∈ lw_all := lw_all_in (List.mem_of_getElem? (i := 1332) (by decide +kernel)) rfl
theorem k_1333 : Cond.selects RX9 yX9_weekday yX9_weekday ∈ lw_all := lw_all_in (List.mem_of_getElem? (i := 1333) (by decide +kernel)) rfl
theorem k_1334 : Cond.code yX9_weekday cX9_weekday 1 (some .int) ∈ lw_all := lw_all_in (List.mem_of_getElem? (i := 1334) (by decide +kernel)) rfl
theorem k_1335 : Cond.methodLink RX9 151 yX9_today ∈ lw_all := lw_all_in (List.mem_of_getElem? (i := 1335) (by decide +kernel)) rfl
theorem k_1337 : Cond.instanceMethod yX9_today ∈ lw_all := lw_all_in (List.mem_of_getElem? (i := 1337) (by decide +kernel)) rfl
theorem k_1338 : Cond.code yX9_today cX9_today 1 (some .long) ∈ lw_all := lw_all_in (List.mem_of_getElem? (i := 1338) (by decide +kernel)) rfl
theorem k_1339 : Cond.constantLong RX9 163 (7) ∈ lw_all := lw_all_in (List.mem_of_getElem? (i := 1339) (by decide +kernel)) rfl
theorem k_1340 : Cond.methodLink RL 176 yX9_year ∈ lw_all := lw_all_in (List.mem_of_getElem? (i := 1340) (by decide +kernel)) rfl
theorem k_1341 : Cond.instanceMethod yX9_year ∈ lw_all := lw_all_in (List.mem_of_getElem? (i := 1341) (by decide +kernel)) rfl
theorem k_1342 : Cond.selects RX9 yX9_year yX9_year ∈ lw_all := lw_all_in (List.mem_of_getElem? (i := 1342) (by decide +kernel)) rfl
theorem k_1343 : Cond.code yX9_year cX9_year 2 (some .int) ∈ lw_all := lw_all_in (List.mem_of_getElem? (i := 1343) (by decide +kernel)) rfl
theorem k_1344 : Cond.constantLong RX9 155 (366) ∈ lw_all := lw_all_in (List.mem_of_getElem? (i := 1344) (by decide +kernel)) rfl
theorem k_1345 : Cond.methodLink RL 180 yX9_month ∈ lw_all := lw_all_in (List.mem_of_getElem? (i := 1345) (by decide +kernel)) rfl
theorem k_1346 : Cond.instanceMethod yX9_month ∈ lw_all := lw_all_in (List.mem_of_getElem? (i := 1346) (by decide +kernel)) rfl
theorem k_1347 : Cond.selects RX9 yX9_month yX9_month ∈ lw_all := lw_all_in (List.mem_of_getElem? (i := 1347) (by decide +kernel)) rfl
theorem k_1348 : Cond.code yX9_month cX9_month 3 (some .int) ∈ lw_all := lw_all_in (List.mem_of_getElem? (i := 1348) (by decide +kernel)) rfl
theorem k_1349 : Cond.methodLink RX9 157 yX9_year ∈ lw_all := lw_all_in (List.mem_of_getElem? (i := 1349) (by decide +kernel)) rfl
theorem k_1350 : Cond.methodLink RL 184 yX9_day ∈ lw_all := lw_all_in (List.mem_of_getElem? (i := 1350) (by decide +kernel)) rfl
theorem k_1351 : Cond.instanceMethod yX9_day ∈ lw_all := lw_all_in (List.mem_of_getElem? (i := 1351) (by decide +kernel)) rfl
theorem k_1352 : Cond.selects RX9 yX9_day yX9_day ∈ lw_all := lw_all_in (List.mem_of_getElem? (i := 1352) (by decide +kernel)) rfl
theorem k_1353 : Cond.code yX9_day cX9_day 1 (some .int) ∈ lw_all := lw_all_in (List.mem_of_getElem? (i := 1353) (by decide +kernel)) rfl
theorem k_1354 : Cond.methodLink RX9 160 yX9_month ∈ lw_all := lw_all_in (List.mem_of_getElem? (i := 1354) (by decide +kernel)) rfl
theorem k_1355 : Cond.methodLink RL 188 yX9_weekday ∈ lw_all := lw_all_in (List.mem_of_getElem? (i := 1355) (by decide +kernel)) rfl
theorem k_1356 : Cond.methodLink RL 191 yX9_isLeap ∈ lw_all := lw_all_in (List.mem_of_getElem? (i := 1356) (by decide +kernel)) rfl
theorem k_1357 : Cond.instanceMethod yX9_isLeap ∈ lw_all := lw_all_in (List.mem_of_getElem? (i := 1357) (by decide +kernel)) rfl
theorem k_1358 : Cond.selects RX9 yX9_isLeap yX9_isLeap ∈ lw_all := lw_all_in (List.mem_of_getElem? (i := 1358) (by decide +kernel)) rfl
theorem k_1359 : Cond.code yX9_isLeap cX9_isLeap 2 (some .boolean) ∈ lw_all := lw_all_in (List.mem_of_getElem? (i := 1359) (by decide +kernel)) rfl
theorem k_1360 : Cond.methodLink RL 194 yX9_numberOf ∈ lw_all := lw_all_in (List.mem_of_getElem? (i := 1360) (by decide +kernel)) rfl
theorem k_1361 : Cond.instanceMethod yX9_numberOf ∈ lw_all := lw_all_in (List.mem_of_getElem? (i := 1361) (by decide +kernel)) rfl
theorem k_1362 : Cond.selects RX9 yX9_numberOf yX9_numberOf ∈ lw_all := lw_all_in (List.mem_of_getElem? (i := 1362) (by decide +kernel)) rfl
theorem k_1363 : Cond.code yX9_numberOf cX9_numberOf 4 (some .long) ∈ lw_all := lw_all_in (List.mem_of_getElem? (i := 1363) (by decide +kernel)) rfl
theorem k_1364 : Cond.methodLink RL 197 yX9_numberByCounting ∈ lw_all := lw_all_in (List.mem_of_getElem? (i := 1364) (by decide +kernel)) rfl
theorem k_1365 : Cond.instanceMethod yX9_numberByCounting ∈ lw_all := lw_all_in (List.mem_of_getElem? (i := 1365) (by decide +kernel)) rfl
theorem k_1366 : Cond.selects RX9 yX9_numberByCounting yX9_numberByCounting ∈ lw_all := lw_all_in (List.mem_of_getElem? (i := 1366) (by decide +kernel)) rfl
theorem k_1367 : Cond.code yX9_numberByCounting cX9_numberByCounting 4 (some .long) ∈ lw_all := lw_all_in (List.mem_of_getElem? (i := 1367) (by decide +kernel)) rfl
theorem k_1368 : Cond.methodLink RX9 165 yX9_numberOf ∈ lw_all := lw_all_in (List.mem_of_getElem? (i := 1368) (by decide +kernel)) rfl
theorem k_1369 : Cond.methodLink RL 200 yX9_setSilence ∈ lw_all := lw_all_in (List.mem_of_getElem? (i := 1369) (by decide +kernel)) rfl
theorem k_1370 : Cond.instanceMethod yX9_setSilence ∈ lw_all := lw_all_in (List.mem_of_getElem? (i := 1370) (by decide +kernel)) rfl
theorem k_1371 : Cond.selects RX9 yX9_setSilence yX9_setSilence ∈ lw_all := lw_all_in (List.mem_of_getElem? (i := 1371) (by decide +kernel)) rfl
theorem k_1372 : Cond.code yX9_setSilence cX9_setSilence 3 (some .int) ∈ lw_all := lw_all_in (List.mem_of_getElem? (i := 1372) (by decide +kernel)) rfl
theorem k_1373 : Cond.methodLink RL 205 yX9_setQuarters ∈ lw_all := lw_all_in (List.mem_of_getElem? (i := 1373) (by decide +kernel)) rfl
theorem k_1374 : Cond.instanceMethod yX9_setQuarters ∈ lw_all := lw_all_in (List.mem_of_getElem? (i := 1374) (by decide +kernel)) rfl
theorem k_1375 : Cond.selects RX9 yX9_setQuarters yX9_setQuarters ∈ lw_all := lw_all_in (List.mem_of_getElem? (i := 1375) (by decide +kernel)) rfl
theorem k_1376 : Cond.code yX9_setQuarters cX9_setQuarters 3 (some .boolean) ∈ lw_all := lw_all_in (List.mem_of_getElem? (i := 1376) (by decide +kernel)) rfl
theorem k_1377 : Cond.methodLink RL 209 yX9_addDrum ∈ lw_all := lw_all_in (List.mem_of_getElem? (i := 1377) (by decide +kernel)) rfl
theorem k_1378 : Cond.instanceMethod yX9_addDrum ∈ lw_all := lw_all_in (List.mem_of_getElem? (i := 1378) (by decide +kernel)) rfl
theorem k_1379 : Cond.selects RX9 yX9_addDrum yX9_addDrum ∈ lw_all := lw_all_in (List.mem_of_getElem? (i := 1379) (by decide +kernel)) rfl
theorem k_1380 : Cond.code yX9_addDrum cX9_addDrum 1 (some .int) ∈ lw_all := lw_all_in (List.mem_of_getElem? (i := 1380) (by decide +kernel)) rfl
theorem k_1381 : Cond.methodLink RL 213 yX9_setPin ∈ lw_all := lw_all_in (List.mem_of_getElem? (i := 1381) (by decide +kernel)) rfl
theorem k_1382 : Cond.instanceMethod yX9_setPin ∈ lw_all := lw_all_in (List.mem_of_getElem? (i := 1382) (by decide +kernel)) rfl
theorem k_1383 : Cond.selects RX9 yX9_setPin yX9_setPin ∈ lw_all := lw_all_in (List.mem_of_getElem? (i := 1383) (by decide +kernel)) rfl
theorem k_1384 : Cond.code yX9_setPin cX9_setPin 7 (some .boolean) ∈ lw_all := lw_all_in (List.mem_of_getElem? (i := 1384) (by decide +kernel)) rfl
theorem k_1385 : Cond.methodLink RX9 171 yX9_noDrum ∈ lw_all := lw_all_in (List.mem_of_getElem? (i := 1385) (by decide +kernel)) rfl
theorem k_1387 : Cond.instanceMethod yX9_noDrum ∈ lw_all := lw_all_in (List.mem_of_getElem? (i := 1387) (by decide +kernel)) rfl
theorem k_1388 : Cond.code yX9_noDrum cX9_noDrum 2 (some .boolean) ∈ lw_all := lw_all_in (List.mem_of_getElem? (i := 1388) (by decide +kernel)) rfl
theorem k_1389 : Cond.methodLink RL 216 yX9_pins ∈ lw_all := lw_all_in (List.mem_of_getElem? (i := 1389) (by decide +kernel)) rfl
theorem k_1390 : Cond.instanceMethod yX9_pins ∈ lw_all := lw_all_in (List.mem_of_getElem? (i := 1390) (by decide +kernel)) rfl
theorem k_1391 : Cond.selects RX9 yX9_pins yX9_pins ∈ lw_all := lw_all_in (List.mem_of_getElem? (i := 1391) (by decide +kernel)) rfl
theorem k_1392 : Cond.code yX9_pins cX9_pins 4 (some .int) ∈ lw_all := lw_all_in (List.mem_of_getElem? (i := 1392) (by decide +kernel)) rfl
theorem k_1393 : Cond.methodLink RX9 174 yJ6_bitCount_0f7a4 ∈ lw_all := lw_all_in (List.mem_of_getElem? (i := 1393) (by decide +kernel)) rfl
theorem k_1394 : Cond.static yJ6_bitCount_0f7a4 ∈ lw_all := lw_all_in (List.mem_of_getElem? (i := 1394) (by decide +kernel)) rfl
theorem k_1395 : Cond.code yJ6_bitCount_0f7a4 cJ6_bitCount_0f7a4 1 (some .int) ∈ lw_all := lw_all_in (List.mem_of_getElem? (i := 1395) (by decide +kernel)) rfl
theorem k_1396 : Cond.constant RJ6 265 (1431655765) ∈ lw_all := lw_all_in (List.mem_of_getElem? (i := 1396) (by decide +kernel)) rfl
theorem k_1397 : Cond.constant RJ6 266 (858993459) ∈ lw_all := lw_all_in (List.mem_of_getElem? (i := 1397) (by decide +kernel)) rfl
theorem k_1398 : Cond.constant RJ6 267 (252645135) ∈ lw_all := lw_all_in (List.mem_of_getElem? (i := 1398) (by decide +kernel)) rfl
theorem k_1399 : Cond.methodLink RL 219 yX9_bellAt ∈ lw_all := lw_all_in (List.mem_of_getElem? (i := 1399) (by decide +kernel)) rfl
theorem k_1400 : Cond.instanceMethod yX9_bellAt ∈ lw_all := lw_all_in (List.mem_of_getElem? (i := 1400) (by decide +kernel)) rfl
theorem k_1401 : Cond.selects RX9 yX9_bellAt yX9_bellAt ∈ lw_all := lw_all_in (List.mem_of_getElem? (i := 1401) (by decide +kernel)) rfl
theorem k_1402 : Cond.code yX9_bellAt cX9_bellAt 6 (some .int) ∈ lw_all := lw_all_in (List.mem_of_getElem? (i := 1402) (by decide +kernel)) rfl
theorem k_1403 : Cond.methodLink RL 222 yX9_setTune ∈ lw_all := lw_all_in (List.mem_of_getElem? (i := 1403) (by decide +kernel)) rfl
theorem k_1404 : Cond.instanceMethod yX9_setTune ∈ lw_all := lw_all_in (List.mem_of_getElem? (i := 1404) (by decide +kernel)) rfl
theorem k_1405 : Cond.selects RX9 yX9_setTune yX9_setTune ∈ lw_all := lw_all_in (List.mem_of_getElem? (i := 1405) (by decide +kernel)) rfl
theorem k_1406 : Cond.code yX9_setTune cX9_setTune 4 (some .int) ∈ lw_all := lw_all_in (List.mem_of_getElem? (i := 1406) (by decide +kernel)) rfl
theorem k_1407 : Cond.methodLink RL 225 yX9_strokes ∈ lw_all := lw_all_in (List.mem_of_getElem? (i := 1407) (by decide +kernel)) rfl
theorem k_1408 : Cond.instanceMethod yX9_strokes ∈ lw_all := lw_all_in (List.mem_of_getElem? (i := 1408) (by decide +kernel)) rfl
theorem k_1409 : Cond.selects RX9 yX9_strokes yX9_strokes ∈ lw_all := lw_all_in (List.mem_of_getElem? (i := 1409) (by decide +kernel)) rfl
theorem k_1410 : Cond.code yX9_strokes cX9_strokes 2 (some .int) ∈ lw_all := lw_all_in (List.mem_of_getElem? (i := 1410) (by decide +kernel)) rfl
theorem k_1411 : Cond.methodLink RL 229 yX9_strikes_ ∈ lw_all := lw_all_in (List.mem_of_getElem? (i := 1411) (by decide +kernel)) rfl
theorem k_1412 : Cond.instanceMethod yX9_strikes_ ∈ lw_all := lw_all_in (List.mem_of_getElem? (i := 1412) (by decide +kernel)) rfl
theorem k_1413 : Cond.selects RX9 yX9_strikes_ yX9_strikes_ ∈ lw_all := lw_all_in (List.mem_of_getElem? (i := 1413) (by decide +kernel)) rfl
theorem k_1414 : Cond.code yX9_strikes_ cX9_strikes_ 1 (some .int) ∈ lw_all := lw_all_in (List.mem_of_getElem? (i := 1414) (by decide +kernel)) rfl
theorem k_1415 : Cond.methodLink RL 232 yX9_markAt ∈ lw_all := lw_all_in (List.mem_of_getElem? (i := 1415) (by decide +kernel)) rfl
theorem k_1416 : Cond.instanceMethod yX9_markAt ∈ lw_all := lw_all_in (List.mem_of_getElem? (i := 1416) (by decide +kernel)) rfl
theorem k_1417 : Cond.selects RX9 yX9_markAt yX9_markAt ∈ lw_all := lw_all_in (List.mem_of_getElem? (i := 1417) (by decide +kernel)) rfl
theorem k_1418 : Cond.code yX9_markAt cX9_markAt 2 (some .int) ∈ lw_all := lw_all_in (List.mem_of_getElem? (i := 1418) (by decide +kernel)) rfl
theorem k_1419 : Cond.methodLink RX9 179 yX9_kept ∈ lw_all := lw_all_in (List.mem_of_getElem? (i := 1419) (by decide +kernel)) rfl
theorem k_1421 : Cond.instanceMethod yX9_kept ∈ lw_all := lw_all_in (List.mem_of_getElem? (i := 1421) (by decide +kernel)) rfl
theorem k_1422 : Cond.code yX9_kept cX9_kept 1 (some .int) ∈ lw_all := lw_all_in (List.mem_of_getElem? (i := 1422) (by decide +kernel)) rfl
theorem k_1423 : Cond.methodLink RL 235 yX9_strokesAt ∈ lw_all := lw_all_in (List.mem_of_getElem? (i := 1423) (by decide +kernel)) rfl
theorem k_1424 : Cond.instanceMethod yX9_strokesAt ∈ lw_all := lw_all_in (List.mem_of_getElem? (i := 1424) (by decide +kernel)) rfl
theorem k_1425 : Cond.selects RX9 yX9_strokesAt yX9_strokesAt ∈ lw_all := lw_all_in (List.mem_of_getElem? (i := 1425) (by decide +kernel)) rfl
theorem k_1426 : Cond.code yX9_strokesAt cX9_strokesAt 3 (some .int) ∈ lw_all := lw_all_in (List.mem_of_getElem? (i := 1426) (by decide +kernel)) rfl
theorem k_1427 : Cond.methodLink RL 238 yX9_strokesAhead ∈ lw_all := lw_all_in (List.mem_of_getElem? (i := 1427) (by decide +kernel)) rfl
theorem k_1428 : Cond.instanceMethod yX9_strokesAhead ∈ lw_all := lw_all_in (List.mem_of_getElem? (i := 1428) (by decide +kernel)) rfl
theorem k_1429 : Cond.selects RX9 yX9_strokesAhead yX9_strokesAhead ∈ lw_all := lw_all_in (List.mem_of_getElem? (i := 1429) (by decide +kernel)) rfl
theorem k_1430 : Cond.code yX9_strokesAhead cX9_strokesAhead 6 (some .int) ∈ lw_all := lw_all_in (List.mem_of_getElem? (i := 1430) (by decide +kernel)) rfl
theorem k_1431 : Cond.methodLink RL 241 yX9_strokesByBeats ∈ lw_all := lw_all_in (List.mem_of_getElem? (i := 1431) (by decide +kernel)) rfl
theorem k_1432 : Cond.instanceMethod yX9_strokesByBeats ∈ lw_all := lw_all_in (List.mem_of_getElem? (i := 1432) (by decide +kernel)) rfl
theorem k_1433 : Cond.selects RX9 yX9_strokesByBeats yX9_strokesByBeats ∈ lw_all := lw_all_in (List.mem_of_getElem? (i := 1433) (by decide +kernel)) rfl
theorem k_1434 : Cond.code yX9_strokesByBeats cX9_strokesByBeats 2 (some .int) ∈ lw_all := lw_all_in (List.mem_of_getElem? (i := 1434) (by decide +kernel)) rfl
theorem k_1435 : Cond.methodLink RX9 182 yX9_strokesAhead ∈ lw_all := lw_all_in (List.mem_of_getElem? (i := 1435) (by decide +kernel)) rfl
theorem k_1436 : Cond.methodLink RL 245 yX9_struckShare ∈ lw_all := lw_all_in (List.mem_of_getElem? (i := 1436) (by decide +kernel)) rfl
theorem k_1437 : Cond.instanceMethod yX9_struckShare ∈ lw_all := lw_all_in (List.mem_of_getElem? (i := 1437) (by decide +kernel)) rfl
theorem k_1438 : Cond.selects RX9 yX9_struckShare yX9_struckShare ∈ lw_all := lw_all_in (List.mem_of_getElem? (i := 1438) (by decide +kernel)) rfl
theorem k_1439 : Cond.code yX9_struckShare cX9_struckShare 1 (some .float) ∈ lw_all := lw_all_in (List.mem_of_getElem? (i := 1439) (by decide +kernel)) rfl
theorem k_1440 : Cond.methodLink RL 250 yX9_isOnce ∈ lw_all := lw_all_in (List.mem_of_getElem? (i := 1440) (by decide +kernel)) rfl
theorem k_1441 : Cond.instanceMethod yX9_isOnce ∈ lw_all := lw_all_in (List.mem_of_getElem? (i := 1441) (by decide +kernel)) rfl
theorem k_1442 : Cond.selects RX9 yX9_isOnce yX9_isOnce ∈ lw_all := lw_all_in (List.mem_of_getElem? (i := 1442) (by decide +kernel)) rfl
theorem k_1443 : Cond.code yX9_isOnce cX9_isOnce 1 (some .boolean) ∈ lw_all := lw_all_in (List.mem_of_getElem? (i := 1443) (by decide +kernel)) rfl
theorem k_1444 : Cond.arrayClass .double ∈ lw_all := lw_all_in (List.mem_of_getElem? (i := 1444) (by decide +kernel)) rfl
theorem k_1445 : Cond.sameMethod "java/lang/Throwable" "java/lang/Throwable" "fillInStackTrace" "(I)Ljava/lang/Throwable;" ∈ lw_all := lw_all_in (List.mem_of_getElem? (i := 1445) (by decide +kernel)) rfl
theorem k_1465 : Cond.sameMethod "[Ljava/lang/Object;" "java/lang/Object" "getClass" "()Ljava/lang/Class;" ∈ lw_all := lw_all_in (List.mem_of_getElem? (i := 1465) (by decide +kernel)) rfl
theorem k_1466 : Cond.selects "[Ljava/lang/Object;" ⟨"java/lang/Object", "getClass", "()Ljava/lang/Class;"⟩ ⟨"java/lang/Object", "getClass", "()Ljava/lang/Class;"⟩ ∈ lw_all := lw_all_in (List.mem_of_getElem? (i := 1466) (by decide +kernel)) rfl
theorem in_J0 : ∀ w ∈ u_ws RJ0 TJ0 2, w ∈ lw_all := by
  have e : u_ws RJ0 TJ0 2 = [Cond.laysFinal RJ0 "java/lang/String" "value" "[B", Cond.laysFinal RJ0 "java/lang/String" "coder" "B"] := rfl
  rw [e]
  exact List.forall_mem_cons.mpr ⟨k_756, List.forall_mem_cons.mpr ⟨k_758, fun _ h => absurd h List.not_mem_nil⟩⟩
theorem in_Jx00060 : ∀ w ∈ u_ws RJx00060 TJx00060 6, w ∈ lw_all := by
  have e : u_ws RJx00060 TJx00060 6 = [Cond.lays RJx00060 "java/lang/Throwable" "backtrace" "Ljava/lang/Object;", Cond.lays RJx00060 "java/lang/Throwable" "detailMessage" "Ljava/lang/String;", Cond.lays RJx00060 "java/lang/Throwable" "cause" "Ljava/lang/Throwable;", Cond.lays RJx00060 "java/lang/Throwable" "stackTrace" "[Ljava/lang/StackTraceElement;", Cond.lays RJx00060 "java/lang/Throwable" "depth" "I", Cond.lays RJx00060 "java/lang/Throwable" "suppressedExceptions" "Ljava/util/List;"] := rfl
  rw [e]
  exact List.forall_mem_cons.mpr ⟨k_744, List.forall_mem_cons.mpr ⟨k_745, List.forall_mem_cons.mpr ⟨k_746, List.forall_mem_cons.mpr ⟨k_747, List.forall_mem_cons.mpr ⟨k_748, List.forall_mem_cons.mpr ⟨k_749, fun _ h => absurd h List.not_mem_nil⟩⟩⟩⟩⟩⟩
theorem in_Jx4a65c : ∀ w ∈ u_ws RJx4a65c TJx4a65c 3, w ∈ lw_all := by
  have e : u_ws RJx4a65c TJx4a65c 3 = [Cond.lays RJx4a65c "java/util/AbstractList" "modCount" "I", Cond.lays RJx4a65c "java/util/ArrayList" "elementData" "[Ljava/lang/Object;", Cond.lays RJx4a65c "java/util/ArrayList" "size" "I"] := rfl
  rw [e]
  exact List.forall_mem_cons.mpr ⟨k_102, List.forall_mem_cons.mpr ⟨k_98, List.forall_mem_cons.mpr ⟨k_100, fun _ h => absurd h List.not_mem_nil⟩⟩⟩
theorem in_X0 : ∀ w ∈ u_ws RX0 TX0 6, w ∈ lw_all := by
  have e : u_ws RX0 TX0 6 = [Cond.laysFinal RX0 "MinsterClock$Bells" "drums" "Ljava/util/ArrayList;", Cond.laysFinal RX0 "MinsterClock$Bells" "tunes" "[LMinsterClock$Drum;", Cond.laysFinal RX0 "MinsterClock$Bells" "strokesOfBells" "[I", Cond.lays RX0 "MinsterClock$Bells" "silentFrom" "I", Cond.lays RX0 "MinsterClock$Bells" "silentTo" "I", Cond.lays RX0 "MinsterClock$Bells" "areQuartersOn" "Z"] := rfl
  rw [e]
  exact List.forall_mem_cons.mpr ⟨k_245, List.forall_mem_cons.mpr ⟨k_247, List.forall_mem_cons.mpr ⟨k_249, List.forall_mem_cons.mpr ⟨k_251, List.forall_mem_cons.mpr ⟨k_253, List.forall_mem_cons.mpr ⟨k_255, fun _ h => absurd h List.not_mem_nil⟩⟩⟩⟩⟩⟩
theorem in_X2 : ∀ w ∈ u_ws RX2 TX2 3, w ∈ lw_all := by
  have e : u_ws RX2 TX2 3 = [Cond.laysFinal RX2 "MinsterClock$Drum" "number" "I", Cond.laysFinal RX2 "MinsterClock$Drum" "bellsOfSteps" "[I", Cond.lays RX2 "MinsterClock$Drum" "pins" "I"] := rfl
  rw [e]
  exact List.forall_mem_cons.mpr ⟨k_962, List.forall_mem_cons.mpr ⟨k_964, List.forall_mem_cons.mpr ⟨k_966, fun _ h => absurd h List.not_mem_nil⟩⟩⟩
theorem in_X3 : ∀ w ∈ u_ws RX3 TX3 4, w ∈ lw_all := by
  have e : u_ws RX3 TX3 4 = [Cond.lays RX3 "MinsterClock$Hands" "shown" "I", Cond.lays RX3 "MinsterClock$Hands" "owed" "I", Cond.lays RX3 "MinsterClock$Hands" "bound" "I", Cond.lays RX3 "MinsterClock$Hands" "reached" "I"] := rfl
  rw [e]
  exact List.forall_mem_cons.mpr ⟨k_220, List.forall_mem_cons.mpr ⟨k_222, List.forall_mem_cons.mpr ⟨k_224, List.forall_mem_cons.mpr ⟨k_226, fun _ h => absurd h List.not_mem_nil⟩⟩⟩⟩
theorem in_X4 : ∀ w ∈ u_ws RX4 TX4 3, w ∈ lw_all := by
  have e : u_ws RX4 TX4 3 = [Cond.lays RX4 "MinsterClock$Pace" "numerator" "I", Cond.lays RX4 "MinsterClock$Pace" "denominator" "I", Cond.lays RX4 "MinsterClock$Pace" "rest" "I"] := rfl
  rw [e]
  exact List.forall_mem_cons.mpr ⟨k_203, List.forall_mem_cons.mpr ⟨k_205, List.forall_mem_cons.mpr ⟨k_207, fun _ h => absurd h List.not_mem_nil⟩⟩⟩
theorem in_X5 : ∀ w ∈ u_ws RX5 TX5 4, w ∈ lw_all := by
  have e : u_ws RX5 TX5 4 = [Cond.laysFinal RX5 "MinsterClock$StrikeLog" "marks" "[I", Cond.laysFinal RX5 "MinsterClock$StrikeLog" "strokesOfMarks" "[I", Cond.lays RX5 "MinsterClock$StrikeLog" "struck" "I", Cond.lays RX5 "MinsterClock$StrikeLog" "allStrokes" "J"] := rfl
  rw [e]
  exact List.forall_mem_cons.mpr ⟨k_269, List.forall_mem_cons.mpr ⟨k_271, List.forall_mem_cons.mpr ⟨k_273, List.forall_mem_cons.mpr ⟨k_275, fun _ h => absurd h List.not_mem_nil⟩⟩⟩⟩
theorem in_X6 : ∀ w ∈ u_ws RX6 TX6 1, w ∈ lw_all := by
  have e : u_ws RX6 TX6 1 = [Cond.laysFinal RX6 "MinsterClock$Train" "wheels" "Ljava/util/ArrayList;"] := rfl
  rw [e]
  exact List.forall_mem_cons.mpr ⟨k_191, fun _ h => absurd h List.not_mem_nil⟩
theorem in_X7 : ∀ w ∈ u_ws RX7 TX7 5, w ∈ lw_all := by
  have e : u_ws RX7 TX7 5 = [Cond.laysFinal RX7 "MinsterClock$Wheel" "teeth" "I", Cond.laysFinal RX7 "MinsterClock$Wheel" "leaves" "I", Cond.laysFinal RX7 "MinsterClock$Wheel" "teethBefore" "I", Cond.laysFinal RX7 "MinsterClock$Wheel" "movedBeforeAtStart" "J", Cond.lays RX7 "MinsterClock$Wheel" "walkRest" "J"] := rfl
  rw [e]
  exact List.forall_mem_cons.mpr ⟨k_116, List.forall_mem_cons.mpr ⟨k_118, List.forall_mem_cons.mpr ⟨k_120, List.forall_mem_cons.mpr ⟨k_122, List.forall_mem_cons.mpr ⟨k_124, fun _ h => absurd h List.not_mem_nil⟩⟩⟩⟩⟩
theorem in_X8 : ∀ w ∈ u_ws RX8 TX8 9, w ∈ lw_all := by
  have e : u_ws RX8 TX8 9 = [Cond.laysFinal RX8 "MinsterClock" "train" "LMinsterClock$Train;", Cond.laysFinal RX8 "MinsterClock" "pace" "LMinsterClock$Pace;", Cond.laysFinal RX8 "MinsterClock" "hands" "LMinsterClock$Hands;", Cond.laysFinal RX8 "MinsterClock" "bells" "LMinsterClock$Bells;", Cond.laysFinal RX8 "MinsterClock" "log" "LMinsterClock$StrikeLog;", Cond.laysFinal RX8 "MinsterClock" "trialPace" "LMinsterClock$Pace;", Cond.laysFinal RX8 "MinsterClock" "trialHands" "LMinsterClock$Hands;", Cond.lays RX8 "MinsterClock" "beatsPassed" "J", Cond.lays RX8 "MinsterClock" "dateOfShownZero" "J"] := rfl
  rw [e]
  exact List.forall_mem_cons.mpr ⟨k_308, List.forall_mem_cons.mpr ⟨k_310, List.forall_mem_cons.mpr ⟨k_312, List.forall_mem_cons.mpr ⟨k_314, List.forall_mem_cons.mpr ⟨k_316, List.forall_mem_cons.mpr ⟨k_318, List.forall_mem_cons.mpr ⟨k_320, List.forall_mem_cons.mpr ⟨k_322, List.forall_mem_cons.mpr ⟨k_324, fun _ h => absurd h List.not_mem_nil⟩⟩⟩⟩⟩⟩⟩⟩⟩
theorem in_X9 : ∀ w ∈ u_ws RX9 TX9 26, w ∈ lw_all := by
  have e : u_ws RX9 TX9 26 = [Cond.lays RX9 "MinsterClockModel" "thrown" "I", Cond.lays RX9 "MinsterClockModel" "wheels" "I", Cond.lays RX9 "MinsterClockModel" "numerator" "I", Cond.lays RX9 "MinsterClockModel" "denominator" "I", Cond.lays RX9 "MinsterClockModel" "rest" "I", Cond.lays RX9 "MinsterClockModel" "shown" "I", Cond.lays RX9 "MinsterClockModel" "owed" "I", Cond.lays RX9 "MinsterClockModel" "bound" "I", Cond.lays RX9 "MinsterClockModel" "reached" "I", Cond.lays RX9 "MinsterClockModel" "drums" "I", Cond.lays RX9 "MinsterClockModel" "struck" "I", Cond.lays RX9 "MinsterClockModel" "silentFrom" "I", Cond.lays RX9 "MinsterClockModel" "silentTo" "I", Cond.lays RX9 "MinsterClockModel" "logged" "I", Cond.lays RX9 "MinsterClockModel" "beats" "J", Cond.lays RX9 "MinsterClockModel" "firstDay" "J", Cond.lays RX9 "MinsterClockModel" "areQuarters" "Z", Cond.lays RX9 "MinsterClockModel" "isReal" "Z", Cond.laysFinal RX9 "MinsterClockModel" "teeth" "[I", Cond.laysFinal RX9 "MinsterClockModel" "leaves" "[I", Cond.laysFinal RX9 "MinsterClockModel" "pins" "[I", Cond.laysFinal RX9 "MinsterClockModel" "tune" "[I", Cond.laysFinal RX9 "MinsterClockModel" "strokes" "[I", Cond.laysFinal RX9 "MinsterClockModel" "logMark" "[I", Cond.laysFinal RX9 "MinsterClockModel" "logStrokes" "[I", Cond.laysFinal RX9 "MinsterClockModel" "offset" "[J"] := rfl
  rw [e]
  exact List.forall_mem_cons.mpr ⟨k_1164, List.forall_mem_cons.mpr ⟨k_1166, List.forall_mem_cons.mpr ⟨k_1168, List.forall_mem_cons.mpr ⟨k_1170, List.forall_mem_cons.mpr ⟨k_1172, List.forall_mem_cons.mpr ⟨k_1174, List.forall_mem_cons.mpr ⟨k_1176, List.forall_mem_cons.mpr ⟨k_1178, List.forall_mem_cons.mpr ⟨k_1180, List.forall_mem_cons.mpr ⟨k_1182, List.forall_mem_cons.mpr ⟨k_1184, List.forall_mem_cons.mpr ⟨k_1186, List.forall_mem_cons.mpr ⟨k_1188, List.forall_mem_cons.mpr ⟨k_1190, List.forall_mem_cons.mpr ⟨k_1192, List.forall_mem_cons.mpr ⟨k_1194, List.forall_mem_cons.mpr ⟨k_1196, List.forall_mem_cons.mpr ⟨k_1198, List.forall_mem_cons.mpr ⟨k_1200, List.forall_mem_cons.mpr ⟨k_1202, List.forall_mem_cons.mpr ⟨k_1204, List.forall_mem_cons.mpr ⟨k_1206, List.forall_mem_cons.mpr ⟨k_1208, List.forall_mem_cons.mpr ⟨k_1210, List.forall_mem_cons.mpr ⟨k_1212, List.forall_mem_cons.mpr ⟨k_1214, fun _ h => absurd h List.not_mem_nil⟩⟩⟩⟩⟩⟩⟩⟩⟩⟩⟩⟩⟩⟩⟩⟩⟩⟩⟩⟩⟩⟩⟩⟩⟩⟩
