theorem k_0 : Cond.selects RJx4a65c yJx4a65c_add_72be8 yJx4a65c_add_72be8 ∈ lw_all := lw_all_in (List.mem_of_getElem? (i := 0) (by decide +kernel)) rfl
theorem k_1 : Cond.selects RJx4a65c yJx4a65c_grow_d5877 yJx4a65c_grow_d5877 ∈ lw_all := lw_all_in (List.mem_of_getElem? (i := 1) (by decide +kernel)) rfl
theorem k_2 : Cond.selects RJx4a65c yJx4a65c_grow_92f84 yJx4a65c_grow_92f84 ∈ lw_all := lw_all_in (List.mem_of_getElem? (i := 2) (by decide +kernel)) rfl
theorem k_3 : Cond.selects RX8 yX8_dateShown yX8_dateShown ∈ lw_all := lw_all_in (List.mem_of_getElem? (i := 3) (by decide +kernel)) rfl
theorem k_4 : Cond.selects RX8 yX8_wholeDaysShown yX8_wholeDaysShown ∈ lw_all := lw_all_in (List.mem_of_getElem? (i := 4) (by decide +kernel)) rfl
theorem k_5 : Cond.selects "java/lang/Throwable" ⟨"java/lang/Throwable", "fillInStackTrace", "(I)Ljava/lang/Throwable;"⟩ ⟨"java/lang/Throwable", "fillInStackTrace", "(I)Ljava/lang/Throwable;"⟩ ∈ lw_all := lw_all_in (List.mem_of_getElem? (i := 5) (by decide +kernel)) rfl
theorem k_6 : Cond.selects RX6 yX6_teethOf yX6_teethOf ∈ lw_all := lw_all_in (List.mem_of_getElem? (i := 6) (by decide +kernel)) rfl
theorem k_7 : Cond.selects RX8 yX8_requireWheel yX8_requireWheel ∈ lw_all := lw_all_in (List.mem_of_getElem? (i := 7) (by decide +kernel)) rfl
theorem k_8 : Cond.selects RX8 yX8_requireBeats yX8_requireBeats ∈ lw_all := lw_all_in (List.mem_of_getElem? (i := 8) (by decide +kernel)) rfl
theorem k_9 : Cond.selects RX8 yX8_goByMinutes yX8_goByMinutes ∈ lw_all := lw_all_in (List.mem_of_getElem? (i := 9) (by decide +kernel)) rfl
theorem k_10 : Cond.selects RX8 yX8_comeToFullMinute yX8_comeToFullMinute ∈ lw_all := lw_all_in (List.mem_of_getElem? (i := 10) (by decide +kernel)) rfl
theorem k_11 : Cond.selects RX8 yX8_strike yX8_strike ∈ lw_all := lw_all_in (List.mem_of_getElem? (i := 11) (by decide +kernel)) rfl
theorem k_12 : Cond.selects RX0 yX0_isSilent yX0_isSilent ∈ lw_all := lw_all_in (List.mem_of_getElem? (i := 12) (by decide +kernel)) rfl
theorem k_13 : Cond.selects RX0 yX0_tuneOrNull yX0_tuneOrNull ∈ lw_all := lw_all_in (List.mem_of_getElem? (i := 13) (by decide +kernel)) rfl
theorem k_14 : Cond.selects RX2 yX2_hasPin yX2_hasPin ∈ lw_all := lw_all_in (List.mem_of_getElem? (i := 14) (by decide +kernel)) rfl
theorem k_15 : Cond.selects RX5 yX5_slotOf yX5_slotOf ∈ lw_all := lw_all_in (List.mem_of_getElem? (i := 15) (by decide +kernel)) rfl
theorem k_16 : Cond.selects RX8 yX8_requireDrum yX8_requireDrum ∈ lw_all := lw_all_in (List.mem_of_getElem? (i := 16) (by decide +kernel)) rfl
theorem k_17 : Cond.selects RX8 yX8_countByMinutes yX8_countByMinutes ∈ lw_all := lw_all_in (List.mem_of_getElem? (i := 17) (by decide +kernel)) rfl
theorem k_18 : Cond.selects RX8 yX8_requireDate yX8_requireDate ∈ lw_all := lw_all_in (List.mem_of_getElem? (i := 18) (by decide +kernel)) rfl
theorem k_19 : Cond.selects RJx40b00 yJx40b00_appendDecimalTo_8d9f2 yJx40b00_appendDecimalTo_8d9f2 ∈ lw_all := lw_all_in (List.mem_of_getElem? (i := 19) (by decide +kernel)) rfl
theorem k_20 : Cond.selects RJx40b00 yJx40b00_toDecimal_5c35a yJx40b00_toDecimal_5c35a ∈ lw_all := lw_all_in (List.mem_of_getElem? (i := 20) (by decide +kernel)) rfl
theorem k_21 : Cond.selects RJx40b00 yJx40b00_append_d00df yJx40b00_append_d00df ∈ lw_all := lw_all_in (List.mem_of_getElem? (i := 21) (by decide +kernel)) rfl
theorem k_22 : Cond.selects RJx40b00 yJx40b00_toChars_7cf53 yJx40b00_toChars_7cf53 ∈ lw_all := lw_all_in (List.mem_of_getElem? (i := 22) (by decide +kernel)) rfl
theorem k_23 : Cond.selects RJx40b00 yJx40b00_toChars1_cabcc yJx40b00_toChars1_cabcc ∈ lw_all := lw_all_in (List.mem_of_getElem? (i := 23) (by decide +kernel)) rfl
theorem k_24 : Cond.selects RJx40b00 yJx40b00_appendDigit_d00df yJx40b00_appendDigit_d00df ∈ lw_all := lw_all_in (List.mem_of_getElem? (i := 24) (by decide +kernel)) rfl
theorem k_25 : Cond.selects RJx40b00 yJx40b00_y_0f7a4 yJx40b00_y_0f7a4 ∈ lw_all := lw_all_in (List.mem_of_getElem? (i := 25) (by decide +kernel)) rfl
theorem k_26 : Cond.selects RJx40b00 yJx40b00_removeTrailingZeroes_da8c8 yJx40b00_removeTrailingZeroes_da8c8 ∈ lw_all := lw_all_in (List.mem_of_getElem? (i := 26) (by decide +kernel)) rfl
theorem k_27 : Cond.selects RJx40b00 yJx40b00_toChars2_cabcc yJx40b00_toChars2_cabcc ∈ lw_all := lw_all_in (List.mem_of_getElem? (i := 27) (by decide +kernel)) rfl
theorem k_28 : Cond.selects RJx40b00 yJx40b00_append8Digits_d00df yJx40b00_append8Digits_d00df ∈ lw_all := lw_all_in (List.mem_of_getElem? (i := 28) (by decide +kernel)) rfl
theorem k_29 : Cond.selects RJx40b00 yJx40b00_toChars3_cabcc yJx40b00_toChars3_cabcc ∈ lw_all := lw_all_in (List.mem_of_getElem? (i := 29) (by decide +kernel)) rfl
theorem k_30 : Cond.selects RJx40b00 yJx40b00_exponent_d00df yJx40b00_exponent_d00df ∈ lw_all := lw_all_in (List.mem_of_getElem? (i := 30) (by decide +kernel)) rfl
theorem k_31 : Cond.selects RJx40b00 yJx40b00_toDecimal_cabcc yJx40b00_toDecimal_cabcc ∈ lw_all := lw_all_in (List.mem_of_getElem? (i := 31) (by decide +kernel)) rfl
theorem k_32 : Cond.selects RX8 yX8_countBySeconds yX8_countBySeconds ∈ lw_all := lw_all_in (List.mem_of_getElem? (i := 32) (by decide +kernel)) rfl
theorem k_33 : Cond.selects RX6 yX6_startWalk yX6_startWalk ∈ lw_all := lw_all_in (List.mem_of_getElem? (i := 33) (by decide +kernel)) rfl
theorem k_34 : Cond.selects RX6 yX6_walkOneBeat yX6_walkOneBeat ∈ lw_all := lw_all_in (List.mem_of_getElem? (i := 34) (by decide +kernel)) rfl
theorem k_35 : Cond.initialized RL ∈ lw_all := lw_all_in (List.mem_of_getElem? (i := 35) (by decide +kernel)) rfl
theorem k_36 : Cond.initialized RX8 ∈ lw_all := lw_all_in (List.mem_of_getElem? (i := 36) (by decide +kernel)) rfl
theorem k_37 : Cond.initialized RX6 ∈ lw_all := lw_all_in (List.mem_of_getElem? (i := 37) (by decide +kernel)) rfl
theorem k_38 : Cond.initialized RJxa1e45 ∈ lw_all := lw_all_in (List.mem_of_getElem? (i := 38) (by decide +kernel)) rfl
theorem k_39 : Cond.initialized RJxc12de ∈ lw_all := lw_all_in (List.mem_of_getElem? (i := 39) (by decide +kernel)) rfl
theorem k_40 : Cond.initialized RJx4a65c ∈ lw_all := lw_all_in (List.mem_of_getElem? (i := 40) (by decide +kernel)) rfl
theorem k_41 : Cond.initialized RX7 ∈ lw_all := lw_all_in (List.mem_of_getElem? (i := 41) (by decide +kernel)) rfl
theorem k_42 : Cond.initialized RJ8 ∈ lw_all := lw_all_in (List.mem_of_getElem? (i := 42) (by decide +kernel)) rfl
theorem k_43 : Cond.initialized RJ9 ∈ lw_all := lw_all_in (List.mem_of_getElem? (i := 43) (by decide +kernel)) rfl
theorem k_44 : Cond.initialized RJ7 ∈ lw_all := lw_all_in (List.mem_of_getElem? (i := 44) (by decide +kernel)) rfl
theorem k_45 : Cond.initialized RJ10 ∈ lw_all := lw_all_in (List.mem_of_getElem? (i := 45) (by decide +kernel)) rfl
theorem k_46 : Cond.initialized RX4 ∈ lw_all := lw_all_in (List.mem_of_getElem? (i := 46) (by decide +kernel)) rfl
theorem k_47 : Cond.initialized RX3 ∈ lw_all := lw_all_in (List.mem_of_getElem? (i := 47) (by decide +kernel)) rfl
theorem k_48 : Cond.initialized RX0 ∈ lw_all := lw_all_in (List.mem_of_getElem? (i := 48) (by decide +kernel)) rfl
theorem k_49 : Cond.initialized RX5 ∈ lw_all := lw_all_in (List.mem_of_getElem? (i := 49) (by decide +kernel)) rfl
theorem k_50 : Cond.initialized RX1 ∈ lw_all := lw_all_in (List.mem_of_getElem? (i := 50) (by decide +kernel)) rfl
theorem k_51 : Cond.initialized "java/lang/Throwable" ∈ lw_all := lw_all_in (List.mem_of_getElem? (i := 51) (by decide +kernel)) rfl
theorem k_52 : Cond.initialized "java/lang/Exception" ∈ lw_all := lw_all_in (List.mem_of_getElem? (i := 52) (by decide +kernel)) rfl
theorem k_53 : Cond.initialized "java/lang/RuntimeException" ∈ lw_all := lw_all_in (List.mem_of_getElem? (i := 53) (by decide +kernel)) rfl
theorem k_54 : Cond.initialized "java/lang/ArithmeticException" ∈ lw_all := lw_all_in (List.mem_of_getElem? (i := 54) (by decide +kernel)) rfl
theorem k_55 : Cond.initialized RJ0 ∈ lw_all := lw_all_in (List.mem_of_getElem? (i := 55) (by decide +kernel)) rfl
theorem k_56 : Cond.initialized "java/lang/IndexOutOfBoundsException" ∈ lw_all := lw_all_in (List.mem_of_getElem? (i := 56) (by decide +kernel)) rfl
theorem k_57 : Cond.initialized RJx00060 ∈ lw_all := lw_all_in (List.mem_of_getElem? (i := 57) (by decide +kernel)) rfl
theorem k_58 : Cond.initialized RJ15 ∈ lw_all := lw_all_in (List.mem_of_getElem? (i := 58) (by decide +kernel)) rfl
theorem k_59 : Cond.initialized RJ3 ∈ lw_all := lw_all_in (List.mem_of_getElem? (i := 59) (by decide +kernel)) rfl
theorem k_60 : Cond.initialized "java/lang/IllegalArgumentException" ∈ lw_all := lw_all_in (List.mem_of_getElem? (i := 60) (by decide +kernel)) rfl
theorem k_61 : Cond.initialized "java/util/NoSuchElementException" ∈ lw_all := lw_all_in (List.mem_of_getElem? (i := 61) (by decide +kernel)) rfl
theorem k_62 : Cond.initialized "java/lang/IllegalStateException" ∈ lw_all := lw_all_in (List.mem_of_getElem? (i := 62) (by decide +kernel)) rfl
theorem k_63 : Cond.initialized RX2 ∈ lw_all := lw_all_in (List.mem_of_getElem? (i := 63) (by decide +kernel)) rfl
theorem k_64 : Cond.initialized RX9 ∈ lw_all := lw_all_in (List.mem_of_getElem? (i := 64) (by decide +kernel)) rfl
theorem k_65 : Cond.initialized RJ5 ∈ lw_all := lw_all_in (List.mem_of_getElem? (i := 65) (by decide +kernel)) rfl
theorem k_66 : Cond.initialized RJ4 ∈ lw_all := lw_all_in (List.mem_of_getElem? (i := 66) (by decide +kernel)) rfl
theorem k_67 : Cond.initialized RJ2 ∈ lw_all := lw_all_in (List.mem_of_getElem? (i := 67) (by decide +kernel)) rfl
theorem k_68 : Cond.initialized RJxd2413 ∈ lw_all := lw_all_in (List.mem_of_getElem? (i := 68) (by decide +kernel)) rfl
theorem k_69 : Cond.initialized RJ6 ∈ lw_all := lw_all_in (List.mem_of_getElem? (i := 69) (by decide +kernel)) rfl
theorem k_70 : Cond.initialized RJ1 ∈ lw_all := lw_all_in (List.mem_of_getElem? (i := 70) (by decide +kernel)) rfl
theorem k_71 : Cond.initialized RJ13 ∈ lw_all := lw_all_in (List.mem_of_getElem? (i := 71) (by decide +kernel)) rfl
theorem k_72 : Cond.initialized RJx40b00 ∈ lw_all := lw_all_in (List.mem_of_getElem? (i := 72) (by decide +kernel)) rfl
theorem k_73 : Cond.initialized RJxf58ca ∈ lw_all := lw_all_in (List.mem_of_getElem? (i := 73) (by decide +kernel)) rfl
theorem k_74 : Cond.initialized RJx25f51 ∈ lw_all := lw_all_in (List.mem_of_getElem? (i := 74) (by decide +kernel)) rfl
theorem k_75 : Cond.classLink RL 9 RX8 ∈ lw_all := lw_all_in (List.mem_of_getElem? (i := 75) (by decide +kernel)) rfl
theorem k_76 : Cond.instantiable RX8 9 ∈ lw_all := lw_all_in (List.mem_of_getElem? (i := 76) (by decide +kernel)) rfl
theorem k_77 : Cond.methodLink RL 255 yX8_init ∈ lw_all := lw_all_in (List.mem_of_getElem? (i := 77) (by decide +kernel)) rfl
theorem k_78 : Cond.instanceMethod yX8_init ∈ lw_all := lw_all_in (List.mem_of_getElem? (i := 78) (by decide +kernel)) rfl
theorem k_79 : Cond.code yX8_init cX8_init 1 none ∈ lw_all := lw_all_in (List.mem_of_getElem? (i := 79) (by decide +kernel)) rfl
theorem k_80 : Cond.methodLink RX8 1 objectInit ∈ lw_all := lw_all_in (List.mem_of_getElem? (i := 80) (by decide +kernel)) rfl
theorem k_81 : Cond.instanceMethod objectInit ∈ lw_all := lw_all_in (List.mem_of_getElem? (i := 81) (by decide +kernel)) rfl
theorem k_82 : Cond.code objectInit ⟨#[0xb1]⟩ 1 none ∈ lw_all := lw_all_in (List.mem_of_getElem? (i := 82) (by decide +kernel)) rfl
theorem k_83 : Cond.classLink RX8 7 RX6 ∈ lw_all := lw_all_in (List.mem_of_getElem? (i := 83) (by decide +kernel)) rfl
theorem k_84 : Cond.instantiable RX6 1 ∈ lw_all := lw_all_in (List.mem_of_getElem? (i := 84) (by decide +kernel)) rfl
theorem k_85 : Cond.methodLink RX8 9 yX6_init ∈ lw_all := lw_all_in (List.mem_of_getElem? (i := 85) (by decide +kernel)) rfl
theorem k_86 : Cond.instanceMethod yX6_init ∈ lw_all := lw_all_in (List.mem_of_getElem? (i := 86) (by decide +kernel)) rfl
theorem k_87 : Cond.code yX6_init cX6_init 1 none ∈ lw_all := lw_all_in (List.mem_of_getElem? (i := 87) (by decide +kernel)) rfl
theorem k_88 : Cond.methodLink RX6 1 objectInit ∈ lw_all := lw_all_in (List.mem_of_getElem? (i := 88) (by decide +kernel)) rfl
theorem k_89 : Cond.classLink RX6 7 RJx4a65c ∈ lw_all := lw_all_in (List.mem_of_getElem? (i := 89) (by decide +kernel)) rfl
theorem k_90 : Cond.instantiable RJx4a65c 3 ∈ lw_all := lw_all_in (List.mem_of_getElem? (i := 90) (by decide +kernel)) rfl
theorem k_91 : Cond.methodLink RX6 9 yJx4a65c_init_da8c8 ∈ lw_all := lw_all_in (List.mem_of_getElem? (i := 91) (by decide +kernel)) rfl
theorem k_92 : Cond.instanceMethod yJx4a65c_init_da8c8 ∈ lw_all := lw_all_in (List.mem_of_getElem? (i := 92) (by decide +kernel)) rfl
theorem k_93 : Cond.code yJx4a65c_init_da8c8 cJx4a65c_init_da8c8 1 none ∈ lw_all := lw_all_in (List.mem_of_getElem? (i := 93) (by decide +kernel)) rfl
theorem k_94 : Cond.methodLink RJx4a65c 1 yJxc12de_init_da8c8 ∈ lw_all := lw_all_in (List.mem_of_getElem? (i := 94) (by decide +kernel)) rfl
theorem k_95 : Cond.instanceMethod yJxc12de_init_da8c8 ∈ lw_all := lw_all_in (List.mem_of_getElem? (i := 95) (by decide +kernel)) rfl
theorem k_96 : Cond.code yJxc12de_init_da8c8 cJxc12de_init_da8c8 1 none ∈ lw_all := lw_all_in (List.mem_of_getElem? (i := 96) (by decide +kernel)) rfl
theorem k_97 : Cond.methodLink RJxc12de 1 yJxa1e45_init_da8c8 ∈ lw_all := lw_all_in (List.mem_of_getElem? (i := 97) (by decide +kernel)) rfl
theorem k_98 : Cond.instanceMethod yJxa1e45_init_da8c8 ∈ lw_all := lw_all_in (List.mem_of_getElem? (i := 98) (by decide +kernel)) rfl
theorem k_99 : Cond.code yJxa1e45_init_da8c8 cJxa1e45_init_da8c8 1 none ∈ lw_all := lw_all_in (List.mem_of_getElem? (i := 99) (by decide +kernel)) rfl
theorem k_100 : Cond.methodLink RJxa1e45 1 objectInit ∈ lw_all := lw_all_in (List.mem_of_getElem? (i := 100) (by decide +kernel)) rfl
theorem k_101 : Cond.fieldLink RJx4a65c 39 "java/util/ArrayList" "DEFAULTCAPACITY_EMPTY_ELEMENTDATA" "[Ljava/lang/Object;" ∈ lw_all := lw_all_in (List.mem_of_getElem? (i := 101) (by decide +kernel)) rfl
theorem k_103 : Cond.fieldLink RJx4a65c 9 "java/util/ArrayList" "elementData" "[Ljava/lang/Object;" ∈ lw_all := lw_all_in (List.mem_of_getElem? (i := 103) (by decide +kernel)) rfl
theorem k_104 : Cond.fieldLink RJx4a65c 48 "java/util/ArrayList" "size" "I" ∈ lw_all := lw_all_in (List.mem_of_getElem? (i := 104) (by decide +kernel)) rfl
theorem k_105 : Cond.fieldLink RJxc12de 7 "java/util/AbstractList" "modCount" "I" ∈ lw_all := lw_all_in (List.mem_of_getElem? (i := 105) (by decide +kernel)) rfl
theorem k_106 : Cond.fieldLink RJx4a65c 63 "java/util/ArrayList" "modCount" "I" ∈ lw_all := lw_all_in (List.mem_of_getElem? (i := 106) (by decide +kernel)) rfl
theorem k_107 : Cond.sameField "java/util/ArrayList" "java/util/AbstractList" "modCount" "I" ∈ lw_all := lw_all_in (List.mem_of_getElem? (i := 107) (by decide +kernel)) rfl
theorem k_108 : Cond.lays RJx4a65c "java/util/ArrayList" "elementData" "[Ljava/lang/Object;" ∈ lw_all := lw_all_in (List.mem_of_getElem? (i := 108) (by decide +kernel)) rfl
theorem k_110 : Cond.lays RJx4a65c "java/util/ArrayList" "size" "I" ∈ lw_all := lw_all_in (List.mem_of_getElem? (i := 110) (by decide +kernel)) rfl
theorem k_112 : Cond.lays RJx4a65c "java/util/AbstractList" "modCount" "I" ∈ lw_all := lw_all_in (List.mem_of_getElem? (i := 112) (by decide +kernel)) rfl
theorem k_115 : Cond.classLink RX6 16 RX7 ∈ lw_all := lw_all_in (List.mem_of_getElem? (i := 115) (by decide +kernel)) rfl
theorem k_116 : Cond.instantiable RX7 5 ∈ lw_all := lw_all_in (List.mem_of_getElem? (i := 116) (by decide +kernel)) rfl
theorem k_117 : Cond.methodLink RX6 18 yX7_init ∈ lw_all := lw_all_in (List.mem_of_getElem? (i := 117) (by decide +kernel)) rfl
theorem k_118 : Cond.instanceMethod yX7_init ∈ lw_all := lw_all_in (List.mem_of_getElem? (i := 118) (by decide +kernel)) rfl
theorem k_119 : Cond.code yX7_init cX7_init 6 none ∈ lw_all := lw_all_in (List.mem_of_getElem? (i := 119) (by decide +kernel)) rfl
theorem k_120 : Cond.methodLink RX7 1 objectInit ∈ lw_all := lw_all_in (List.mem_of_getElem? (i := 120) (by decide +kernel)) rfl
theorem k_121 : Cond.fieldLink RX7 7 "MinsterClock$Wheel" "teeth" "I" ∈ lw_all := lw_all_in (List.mem_of_getElem? (i := 121) (by decide +kernel)) rfl
theorem k_122 : Cond.fieldLink RX7 13 "MinsterClock$Wheel" "leaves" "I" ∈ lw_all := lw_all_in (List.mem_of_getElem? (i := 122) (by decide +kernel)) rfl
theorem k_123 : Cond.fieldLink RX7 16 "MinsterClock$Wheel" "teethBefore" "I" ∈ lw_all := lw_all_in (List.mem_of_getElem? (i := 123) (by decide +kernel)) rfl
theorem k_124 : Cond.fieldLink RX7 19 "MinsterClock$Wheel" "movedBeforeAtStart" "J" ∈ lw_all := lw_all_in (List.mem_of_getElem? (i := 124) (by decide +kernel)) rfl
theorem k_125 : Cond.fieldLink RX7 33 "MinsterClock$Wheel" "walkRest" "J" ∈ lw_all := lw_all_in (List.mem_of_getElem? (i := 125) (by decide +kernel)) rfl
theorem k_126 : Cond.laysFinal RX7 "MinsterClock$Wheel" "teeth" "I" ∈ lw_all := lw_all_in (List.mem_of_getElem? (i := 126) (by decide +kernel)) rfl
theorem k_128 : Cond.laysFinal RX7 "MinsterClock$Wheel" "leaves" "I" ∈ lw_all := lw_all_in (List.mem_of_getElem? (i := 128) (by decide +kernel)) rfl
theorem k_130 : Cond.laysFinal RX7 "MinsterClock$Wheel" "teethBefore" "I" ∈ lw_all := lw_all_in (List.mem_of_getElem? (i := 130) (by decide +kernel)) rfl
theorem k_132 : Cond.laysFinal RX7 "MinsterClock$Wheel" "movedBeforeAtStart" "J" ∈ lw_all := lw_all_in (List.mem_of_getElem? (i := 132) (by decide +kernel)) rfl
theorem k_134 : Cond.lays RX7 "MinsterClock$Wheel" "walkRest" "J" ∈ lw_all := lw_all_in (List.mem_of_getElem? (i := 134) (by decide +kernel)) rfl
theorem k_137 : Cond.methodLink RX6 21 yJx4a65c_add_9ea2d ∈ lw_all := lw_all_in (List.mem_of_getElem? (i := 137) (by decide +kernel)) rfl
theorem k_138 : Cond.instanceMethod yJx4a65c_add_9ea2d ∈ lw_all := lw_all_in (List.mem_of_getElem? (i := 138) (by decide +kernel)) rfl
theorem k_139 : Cond.selects RJx4a65c yJx4a65c_add_9ea2d yJx4a65c_add_9ea2d ∈ lw_all := lw_all_in (List.mem_of_getElem? (i := 139) (by decide +kernel)) rfl
theorem k_140 : Cond.code yJx4a65c_add_9ea2d cJx4a65c_add_9ea2d 2 (some .boolean) ∈ lw_all := lw_all_in (List.mem_of_getElem? (i := 140) (by decide +kernel)) rfl
theorem k_141 : Cond.methodLink RJx4a65c 131 yJx4a65c_add_72be8 ∈ lw_all := lw_all_in (List.mem_of_getElem? (i := 141) (by decide +kernel)) rfl
theorem k_143 : Cond.instanceMethod yJx4a65c_add_72be8 ∈ lw_all := lw_all_in (List.mem_of_getElem? (i := 143) (by decide +kernel)) rfl
theorem k_144 : Cond.code yJx4a65c_add_72be8 cJx4a65c_add_72be8 4 none ∈ lw_all := lw_all_in (List.mem_of_getElem? (i := 144) (by decide +kernel)) rfl
theorem k_145 : Cond.methodLink RJx4a65c 129 yJx4a65c_grow_d5877 ∈ lw_all := lw_all_in (List.mem_of_getElem? (i := 145) (by decide +kernel)) rfl
theorem k_147 : Cond.instanceMethod yJx4a65c_grow_d5877 ∈ lw_all := lw_all_in (List.mem_of_getElem? (i := 147) (by decide +kernel)) rfl
theorem k_148 : Cond.code yJx4a65c_grow_d5877 cJx4a65c_grow_d5877 1 (some (.array (.object "java/lang/Object"))) ∈ lw_all := lw_all_in (List.mem_of_getElem? (i := 148) (by decide +kernel)) rfl
theorem k_149 : Cond.methodLink RJx4a65c 69 yJx4a65c_grow_92f84 ∈ lw_all := lw_all_in (List.mem_of_getElem? (i := 149) (by decide +kernel)) rfl
theorem k_151 : Cond.instanceMethod yJx4a65c_grow_92f84 ∈ lw_all := lw_all_in (List.mem_of_getElem? (i := 151) (by decide +kernel)) rfl
theorem k_152 : Cond.code yJx4a65c_grow_92f84 cJx4a65c_grow_92f84 4 (some (.array (.object "java/lang/Object"))) ∈ lw_all := lw_all_in (List.mem_of_getElem? (i := 152) (by decide +kernel)) rfl
theorem k_153 : Cond.methodLink RJx4a65c 73 yJ8_newLength_cabcc ∈ lw_all := lw_all_in (List.mem_of_getElem? (i := 153) (by decide +kernel)) rfl
theorem k_154 : Cond.static yJ8_newLength_cabcc ∈ lw_all := lw_all_in (List.mem_of_getElem? (i := 154) (by decide +kernel)) rfl
theorem k_155 : Cond.code yJ8_newLength_cabcc cJ8_newLength_cabcc 4 (some .int) ∈ lw_all := lw_all_in (List.mem_of_getElem? (i := 155) (by decide +kernel)) rfl
theorem k_156 : Cond.methodLink RJ8 194 Lib.Math.max.name ∈ lw_all := lw_all_in (List.mem_of_getElem? (i := 156) (by decide +kernel)) rfl
theorem k_157 : Cond.static Lib.Math.max.name ∈ lw_all := lw_all_in (List.mem_of_getElem? (i := 157) (by decide +kernel)) rfl
theorem k_158 : Cond.code Lib.Math.max.name Lib.Math.max.code 2 (some .int) ∈ lw_all := lw_all_in (List.mem_of_getElem? (i := 158) (by decide +kernel)) rfl
theorem k_159 : Cond.constant RJ8 200 (2147483639) ∈ lw_all := lw_all_in (List.mem_of_getElem? (i := 159) (by decide +kernel)) rfl
theorem k_160 : Cond.methodLink RJ8 201 yJ8_hugeLength_7cf53 ∈ lw_all := lw_all_in (List.mem_of_getElem? (i := 160) (by decide +kernel)) rfl
theorem k_161 : Cond.static yJ8_hugeLength_7cf53 ∈ lw_all := lw_all_in (List.mem_of_getElem? (i := 161) (by decide +kernel)) rfl
theorem k_162 : Cond.code yJ8_hugeLength_7cf53 cJ8_hugeLength_7cf53 3 (some .int) ∈ lw_all := lw_all_in (List.mem_of_getElem? (i := 162) (by decide +kernel)) rfl
theorem k_163 : Cond.methodLink RJx4a65c 66 yJ7_copyOf_1904c ∈ lw_all := lw_all_in (List.mem_of_getElem? (i := 163) (by decide +kernel)) rfl
theorem k_164 : Cond.static yJ7_copyOf_1904c ∈ lw_all := lw_all_in (List.mem_of_getElem? (i := 164) (by decide +kernel)) rfl
theorem k_165 : Cond.code yJ7_copyOf_1904c cJ7_copyOf_1904c 2 (some (.array (.object "java/lang/Object"))) ∈ lw_all := lw_all_in (List.mem_of_getElem? (i := 165) (by decide +kernel)) rfl
theorem k_166 : Cond.methodLink RJ7 86 ⟨"java/lang/Object", "getClass", "()Ljava/lang/Class;"⟩ ∈ lw_all := lw_all_in (List.mem_of_getElem? (i := 166) (by decide +kernel)) rfl
theorem k_167 : Cond.instanceMethod ⟨"java/lang/Object", "getClass", "()Ljava/lang/Class;"⟩ ∈ lw_all := lw_all_in (List.mem_of_getElem? (i := 167) (by decide +kernel)) rfl
theorem k_168 : Cond.sameMethod "java/lang/Object" "java/lang/Object" "getClass" "()Ljava/lang/Class;" ∈ lw_all := lw_all_in (List.mem_of_getElem? (i := 168) (by decide +kernel)) rfl
theorem k_169 : Cond.selects RX8 ⟨"java/lang/Object", "getClass", "()Ljava/lang/Class;"⟩ ⟨"java/lang/Object", "getClass", "()Ljava/lang/Class;"⟩ ∈ lw_all := lw_all_in (List.mem_of_getElem? (i := 169) (by decide +kernel)) rfl
theorem k_170 : Cond.selects RX0 ⟨"java/lang/Object", "getClass", "()Ljava/lang/Class;"⟩ ⟨"java/lang/Object", "getClass", "()Ljava/lang/Class;"⟩ ∈ lw_all := lw_all_in (List.mem_of_getElem? (i := 170) (by decide +kernel)) rfl
theorem k_171 : Cond.selects RX2 ⟨"java/lang/Object", "getClass", "()Ljava/lang/Class;"⟩ ⟨"java/lang/Object", "getClass", "()Ljava/lang/Class;"⟩ ∈ lw_all := lw_all_in (List.mem_of_getElem? (i := 171) (by decide +kernel)) rfl
theorem k_172 : Cond.selects RX3 ⟨"java/lang/Object", "getClass", "()Ljava/lang/Class;"⟩ ⟨"java/lang/Object", "getClass", "()Ljava/lang/Class;"⟩ ∈ lw_all := lw_all_in (List.mem_of_getElem? (i := 172) (by decide +kernel)) rfl
theorem k_173 : Cond.selects RX4 ⟨"java/lang/Object", "getClass", "()Ljava/lang/Class;"⟩ ⟨"java/lang/Object", "getClass", "()Ljava/lang/Class;"⟩ ∈ lw_all := lw_all_in (List.mem_of_getElem? (i := 173) (by decide +kernel)) rfl
theorem k_174 : Cond.selects RX5 ⟨"java/lang/Object", "getClass", "()Ljava/lang/Class;"⟩ ⟨"java/lang/Object", "getClass", "()Ljava/lang/Class;"⟩ ∈ lw_all := lw_all_in (List.mem_of_getElem? (i := 174) (by decide +kernel)) rfl
theorem k_175 : Cond.selects RX6 ⟨"java/lang/Object", "getClass", "()Ljava/lang/Class;"⟩ ⟨"java/lang/Object", "getClass", "()Ljava/lang/Class;"⟩ ∈ lw_all := lw_all_in (List.mem_of_getElem? (i := 175) (by decide +kernel)) rfl
theorem k_176 : Cond.selects RX7 ⟨"java/lang/Object", "getClass", "()Ljava/lang/Class;"⟩ ⟨"java/lang/Object", "getClass", "()Ljava/lang/Class;"⟩ ∈ lw_all := lw_all_in (List.mem_of_getElem? (i := 176) (by decide +kernel)) rfl
theorem k_177 : Cond.selects RX9 ⟨"java/lang/Object", "getClass", "()Ljava/lang/Class;"⟩ ⟨"java/lang/Object", "getClass", "()Ljava/lang/Class;"⟩ ∈ lw_all := lw_all_in (List.mem_of_getElem? (i := 177) (by decide +kernel)) rfl
theorem k_178 : Cond.selects "java/lang/ArithmeticException" ⟨"java/lang/Object", "getClass", "()Ljava/lang/Class;"⟩ ⟨"java/lang/Object", "getClass", "()Ljava/lang/Class;"⟩ ∈ lw_all := lw_all_in (List.mem_of_getElem? (i := 178) (by decide +kernel)) rfl
theorem k_179 : Cond.selects RJx00060 ⟨"java/lang/Object", "getClass", "()Ljava/lang/Class;"⟩ ⟨"java/lang/Object", "getClass", "()Ljava/lang/Class;"⟩ ∈ lw_all := lw_all_in (List.mem_of_getElem? (i := 179) (by decide +kernel)) rfl
theorem k_180 : Cond.selects "java/lang/IllegalArgumentException" ⟨"java/lang/Object", "getClass", "()Ljava/lang/Class;"⟩ ⟨"java/lang/Object", "getClass", "()Ljava/lang/Class;"⟩ ∈ lw_all := lw_all_in (List.mem_of_getElem? (i := 180) (by decide +kernel)) rfl
theorem k_181 : Cond.selects "java/lang/IllegalStateException" ⟨"java/lang/Object", "getClass", "()Ljava/lang/Class;"⟩ ⟨"java/lang/Object", "getClass", "()Ljava/lang/Class;"⟩ ∈ lw_all := lw_all_in (List.mem_of_getElem? (i := 181) (by decide +kernel)) rfl
theorem k_182 : Cond.selects "java/lang/IndexOutOfBoundsException" ⟨"java/lang/Object", "getClass", "()Ljava/lang/Class;"⟩ ⟨"java/lang/Object", "getClass", "()Ljava/lang/Class;"⟩ ∈ lw_all := lw_all_in (List.mem_of_getElem? (i := 182) (by decide +kernel)) rfl
theorem k_183 : Cond.selects RJ0 ⟨"java/lang/Object", "getClass", "()Ljava/lang/Class;"⟩ ⟨"java/lang/Object", "getClass", "()Ljava/lang/Class;"⟩ ∈ lw_all := lw_all_in (List.mem_of_getElem? (i := 183) (by decide +kernel)) rfl
theorem k_184 : Cond.selects RJ4 ⟨"java/lang/Object", "getClass", "()Ljava/lang/Class;"⟩ ⟨"java/lang/Object", "getClass", "()Ljava/lang/Class;"⟩ ∈ lw_all := lw_all_in (List.mem_of_getElem? (i := 184) (by decide +kernel)) rfl
theorem k_185 : Cond.selects RJx4a65c ⟨"java/lang/Object", "getClass", "()Ljava/lang/Class;"⟩ ⟨"java/lang/Object", "getClass", "()Ljava/lang/Class;"⟩ ∈ lw_all := lw_all_in (List.mem_of_getElem? (i := 185) (by decide +kernel)) rfl
theorem k_186 : Cond.selects "java/util/NoSuchElementException" ⟨"java/lang/Object", "getClass", "()Ljava/lang/Class;"⟩ ⟨"java/lang/Object", "getClass", "()Ljava/lang/Class;"⟩ ∈ lw_all := lw_all_in (List.mem_of_getElem? (i := 186) (by decide +kernel)) rfl
theorem k_187 : Cond.selects RJx40b00 ⟨"java/lang/Object", "getClass", "()Ljava/lang/Class;"⟩ ⟨"java/lang/Object", "getClass", "()Ljava/lang/Class;"⟩ ∈ lw_all := lw_all_in (List.mem_of_getElem? (i := 187) (by decide +kernel)) rfl
theorem k_188 : Cond.native ⟨"java/lang/Object", "getClass", "()Ljava/lang/Class;"⟩ ∈ lw_all := lw_all_in (List.mem_of_getElem? (i := 188) (by decide +kernel)) rfl
theorem k_189 : Cond.methodLink RJ7 300 yJ7_copyOf_6403c ∈ lw_all := lw_all_in (List.mem_of_getElem? (i := 189) (by decide +kernel)) rfl
theorem k_190 : Cond.static yJ7_copyOf_6403c ∈ lw_all := lw_all_in (List.mem_of_getElem? (i := 190) (by decide +kernel)) rfl
theorem k_191 : Cond.code yJ7_copyOf_6403c cJ7_copyOf_6403c 4 (some (.array (.object "java/lang/Object"))) ∈ lw_all := lw_all_in (List.mem_of_getElem? (i := 191) (by decide +kernel)) rfl
theorem k_192 : Cond.classLink RJ7 110 "[Ljava/lang/Object;" ∈ lw_all := lw_all_in (List.mem_of_getElem? (i := 192) (by decide +kernel)) rfl
theorem k_194 : Cond.classLink RJ7 2 "java/lang/Object" ∈ lw_all := lw_all_in (List.mem_of_getElem? (i := 194) (by decide +kernel)) rfl
theorem k_195 : Cond.methodLink RJ7 304 Lib.Math.min.name ∈ lw_all := lw_all_in (List.mem_of_getElem? (i := 195) (by decide +kernel)) rfl
theorem k_196 : Cond.static Lib.Math.min.name ∈ lw_all := lw_all_in (List.mem_of_getElem? (i := 196) (by decide +kernel)) rfl
theorem k_197 : Cond.code Lib.Math.min.name Lib.Math.min.code 2 (some .int) ∈ lw_all := lw_all_in (List.mem_of_getElem? (i := 197) (by decide +kernel)) rfl
theorem k_198 : Cond.methodLink RJ7 150 arraycopyName ∈ lw_all := lw_all_in (List.mem_of_getElem? (i := 198) (by decide +kernel)) rfl
theorem k_199 : Cond.static arraycopyName ∈ lw_all := lw_all_in (List.mem_of_getElem? (i := 199) (by decide +kernel)) rfl
theorem k_200 : Cond.native arraycopyName ∈ lw_all := lw_all_in (List.mem_of_getElem? (i := 200) (by decide +kernel)) rfl
theorem k_201 : Cond.methodLink RJx4a65c 79 Lib.Math.max.name ∈ lw_all := lw_all_in (List.mem_of_getElem? (i := 201) (by decide +kernel)) rfl
theorem k_202 : Cond.classLink RJx4a65c 7 "java/lang/Object" ∈ lw_all := lw_all_in (List.mem_of_getElem? (i := 202) (by decide +kernel)) rfl
theorem k_203 : Cond.fieldLink RX6 10 "MinsterClock$Train" "wheels" "Ljava/util/ArrayList;" ∈ lw_all := lw_all_in (List.mem_of_getElem? (i := 203) (by decide +kernel)) rfl
theorem k_204 : Cond.laysFinal RX6 "MinsterClock$Train" "wheels" "Ljava/util/ArrayList;" ∈ lw_all := lw_all_in (List.mem_of_getElem? (i := 204) (by decide +kernel)) rfl
theorem k_207 : Cond.classLink RX8 16 RX4 ∈ lw_all := lw_all_in (List.mem_of_getElem? (i := 207) (by decide +kernel)) rfl
theorem k_208 : Cond.instantiable RX4 3 ∈ lw_all := lw_all_in (List.mem_of_getElem? (i := 208) (by decide +kernel)) rfl
theorem k_209 : Cond.methodLink RX8 18 yX4_init ∈ lw_all := lw_all_in (List.mem_of_getElem? (i := 209) (by decide +kernel)) rfl
theorem k_210 : Cond.instanceMethod yX4_init ∈ lw_all := lw_all_in (List.mem_of_getElem? (i := 210) (by decide +kernel)) rfl
theorem k_211 : Cond.code yX4_init cX4_init 1 none ∈ lw_all := lw_all_in (List.mem_of_getElem? (i := 211) (by decide +kernel)) rfl
theorem k_212 : Cond.methodLink RX4 1 objectInit ∈ lw_all := lw_all_in (List.mem_of_getElem? (i := 212) (by decide +kernel)) rfl
theorem k_213 : Cond.fieldLink RX4 7 "MinsterClock$Pace" "numerator" "I" ∈ lw_all := lw_all_in (List.mem_of_getElem? (i := 213) (by decide +kernel)) rfl
theorem k_214 : Cond.fieldLink RX4 13 "MinsterClock$Pace" "denominator" "I" ∈ lw_all := lw_all_in (List.mem_of_getElem? (i := 214) (by decide +kernel)) rfl
theorem k_215 : Cond.fieldLink RX4 16 "MinsterClock$Pace" "rest" "I" ∈ lw_all := lw_all_in (List.mem_of_getElem? (i := 215) (by decide +kernel)) rfl
theorem k_216 : Cond.lays RX4 "MinsterClock$Pace" "numerator" "I" ∈ lw_all := lw_all_in (List.mem_of_getElem? (i := 216) (by decide +kernel)) rfl
theorem k_218 : Cond.lays RX4 "MinsterClock$Pace" "denominator" "I" ∈ lw_all := lw_all_in (List.mem_of_getElem? (i := 218) (by decide +kernel)) rfl
theorem k_220 : Cond.lays RX4 "MinsterClock$Pace" "rest" "I" ∈ lw_all := lw_all_in (List.mem_of_getElem? (i := 220) (by decide +kernel)) rfl
theorem k_223 : Cond.classLink RX8 23 RX3 ∈ lw_all := lw_all_in (List.mem_of_getElem? (i := 223) (by decide +kernel)) rfl
theorem k_224 : Cond.instantiable RX3 4 ∈ lw_all := lw_all_in (List.mem_of_getElem? (i := 224) (by decide +kernel)) rfl
theorem k_225 : Cond.methodLink RX8 25 yX3_init ∈ lw_all := lw_all_in (List.mem_of_getElem? (i := 225) (by decide +kernel)) rfl
theorem k_226 : Cond.instanceMethod yX3_init ∈ lw_all := lw_all_in (List.mem_of_getElem? (i := 226) (by decide +kernel)) rfl
theorem k_227 : Cond.code yX3_init cX3_init 1 none ∈ lw_all := lw_all_in (List.mem_of_getElem? (i := 227) (by decide +kernel)) rfl
theorem k_228 : Cond.methodLink RX3 3 objectInit ∈ lw_all := lw_all_in (List.mem_of_getElem? (i := 228) (by decide +kernel)) rfl
theorem k_229 : Cond.fieldLink RX3 9 "MinsterClock$Hands" "shown" "I" ∈ lw_all := lw_all_in (List.mem_of_getElem? (i := 229) (by decide +kernel)) rfl
theorem k_230 : Cond.fieldLink RX3 15 "MinsterClock$Hands" "owed" "I" ∈ lw_all := lw_all_in (List.mem_of_getElem? (i := 230) (by decide +kernel)) rfl
theorem k_231 : Cond.fieldLink RX3 18 "MinsterClock$Hands" "bound" "I" ∈ lw_all := lw_all_in (List.mem_of_getElem? (i := 231) (by decide +kernel)) rfl
theorem k_232 : Cond.fieldLink RX3 21 "MinsterClock$Hands" "reached" "I" ∈ lw_all := lw_all_in (List.mem_of_getElem? (i := 232) (by decide +kernel)) rfl
theorem k_233 : Cond.lays RX3 "MinsterClock$Hands" "shown" "I" ∈ lw_all := lw_all_in (List.mem_of_getElem? (i := 233) (by decide +kernel)) rfl
theorem k_235 : Cond.lays RX3 "MinsterClock$Hands" "owed" "I" ∈ lw_all := lw_all_in (List.mem_of_getElem? (i := 235) (by decide +kernel)) rfl
theorem k_237 : Cond.lays RX3 "MinsterClock$Hands" "bound" "I" ∈ lw_all := lw_all_in (List.mem_of_getElem? (i := 237) (by decide +kernel)) rfl
theorem k_239 : Cond.lays RX3 "MinsterClock$Hands" "reached" "I" ∈ lw_all := lw_all_in (List.mem_of_getElem? (i := 239) (by decide +kernel)) rfl
theorem k_242 : Cond.classLink RX8 30 RX0 ∈ lw_all := lw_all_in (List.mem_of_getElem? (i := 242) (by decide +kernel)) rfl
theorem k_243 : Cond.instantiable RX0 6 ∈ lw_all := lw_all_in (List.mem_of_getElem? (i := 243) (by decide +kernel)) rfl
theorem k_244 : Cond.methodLink RX8 32 yX0_init ∈ lw_all := lw_all_in (List.mem_of_getElem? (i := 244) (by decide +kernel)) rfl
theorem k_245 : Cond.instanceMethod yX0_init ∈ lw_all := lw_all_in (List.mem_of_getElem? (i := 245) (by decide +kernel)) rfl
theorem k_246 : Cond.code yX0_init cX0_init 1 none ∈ lw_all := lw_all_in (List.mem_of_getElem? (i := 246) (by decide +kernel)) rfl
theorem k_247 : Cond.methodLink RX0 3 objectInit ∈ lw_all := lw_all_in (List.mem_of_getElem? (i := 247) (by decide +kernel)) rfl
theorem k_248 : Cond.classLink RX0 9 RJx4a65c ∈ lw_all := lw_all_in (List.mem_of_getElem? (i := 248) (by decide +kernel)) rfl
theorem k_249 : Cond.methodLink RX0 11 yJx4a65c_init_da8c8 ∈ lw_all := lw_all_in (List.mem_of_getElem? (i := 249) (by decide +kernel)) rfl
theorem k_250 : Cond.classLink RX0 18 RX2 ∈ lw_all := lw_all_in (List.mem_of_getElem? (i := 250) (by decide +kernel)) rfl
theorem k_252 : Cond.fieldLink RX0 12 "MinsterClock$Bells" "drums" "Ljava/util/ArrayList;" ∈ lw_all := lw_all_in (List.mem_of_getElem? (i := 252) (by decide +kernel)) rfl
theorem k_253 : Cond.fieldLink RX0 20 "MinsterClock$Bells" "tunes" "[LMinsterClock$Drum;" ∈ lw_all := lw_all_in (List.mem_of_getElem? (i := 253) (by decide +kernel)) rfl
theorem k_254 : Cond.fieldLink RX0 24 "MinsterClock$Bells" "strokesOfBells" "[I" ∈ lw_all := lw_all_in (List.mem_of_getElem? (i := 254) (by decide +kernel)) rfl
theorem k_255 : Cond.fieldLink RX0 28 "MinsterClock$Bells" "silentFrom" "I" ∈ lw_all := lw_all_in (List.mem_of_getElem? (i := 255) (by decide +kernel)) rfl
theorem k_256 : Cond.fieldLink RX0 32 "MinsterClock$Bells" "silentTo" "I" ∈ lw_all := lw_all_in (List.mem_of_getElem? (i := 256) (by decide +kernel)) rfl
theorem k_257 : Cond.fieldLink RX0 35 "MinsterClock$Bells" "areQuartersOn" "Z" ∈ lw_all := lw_all_in (List.mem_of_getElem? (i := 257) (by decide +kernel)) rfl
theorem k_258 : Cond.laysFinal RX0 "MinsterClock$Bells" "drums" "Ljava/util/ArrayList;" ∈ lw_all := lw_all_in (List.mem_of_getElem? (i := 258) (by decide +kernel)) rfl
theorem k_260 : Cond.laysFinal RX0 "MinsterClock$Bells" "tunes" "[LMinsterClock$Drum;" ∈ lw_all := lw_all_in (List.mem_of_getElem? (i := 260) (by decide +kernel)) rfl
theorem k_262 : Cond.laysFinal RX0 "MinsterClock$Bells" "strokesOfBells" "[I" ∈ lw_all := lw_all_in (List.mem_of_getElem? (i := 262) (by decide +kernel)) rfl
theorem k_264 : Cond.lays RX0 "MinsterClock$Bells" "silentFrom" "I" ∈ lw_all := lw_all_in (List.mem_of_getElem? (i := 264) (by decide +kernel)) rfl
theorem k_266 : Cond.lays RX0 "MinsterClock$Bells" "silentTo" "I" ∈ lw_all := lw_all_in (List.mem_of_getElem? (i := 266) (by decide +kernel)) rfl
theorem k_268 : Cond.lays RX0 "MinsterClock$Bells" "areQuartersOn" "Z" ∈ lw_all := lw_all_in (List.mem_of_getElem? (i := 268) (by decide +kernel)) rfl
theorem k_271 : Cond.arrayClass .int ∈ lw_all := lw_all_in (List.mem_of_getElem? (i := 271) (by decide +kernel)) rfl
theorem k_272 : Cond.classLink RX8 37 RX5 ∈ lw_all := lw_all_in (List.mem_of_getElem? (i := 272) (by decide +kernel)) rfl
theorem k_273 : Cond.instantiable RX5 4 ∈ lw_all := lw_all_in (List.mem_of_getElem? (i := 273) (by decide +kernel)) rfl
theorem k_274 : Cond.methodLink RX8 39 yX5_init ∈ lw_all := lw_all_in (List.mem_of_getElem? (i := 274) (by decide +kernel)) rfl
theorem k_275 : Cond.instanceMethod yX5_init ∈ lw_all := lw_all_in (List.mem_of_getElem? (i := 275) (by decide +kernel)) rfl
theorem k_276 : Cond.code yX5_init cX5_init 1 none ∈ lw_all := lw_all_in (List.mem_of_getElem? (i := 276) (by decide +kernel)) rfl
theorem k_277 : Cond.methodLink RX5 1 objectInit ∈ lw_all := lw_all_in (List.mem_of_getElem? (i := 277) (by decide +kernel)) rfl
theorem k_278 : Cond.fieldLink RX5 9 "MinsterClock$StrikeLog" "marks" "[I" ∈ lw_all := lw_all_in (List.mem_of_getElem? (i := 278) (by decide +kernel)) rfl
theorem k_279 : Cond.fieldLink RX5 13 "MinsterClock$StrikeLog" "strokesOfMarks" "[I" ∈ lw_all := lw_all_in (List.mem_of_getElem? (i := 279) (by decide +kernel)) rfl
theorem k_280 : Cond.fieldLink RX5 16 "MinsterClock$StrikeLog" "struck" "I" ∈ lw_all := lw_all_in (List.mem_of_getElem? (i := 280) (by decide +kernel)) rfl
theorem k_281 : Cond.fieldLink RX5 20 "MinsterClock$StrikeLog" "allStrokes" "J" ∈ lw_all := lw_all_in (List.mem_of_getElem? (i := 281) (by decide +kernel)) rfl
theorem k_282 : Cond.laysFinal RX5 "MinsterClock$StrikeLog" "marks" "[I" ∈ lw_all := lw_all_in (List.mem_of_getElem? (i := 282) (by decide +kernel)) rfl
theorem k_284 : Cond.laysFinal RX5 "MinsterClock$StrikeLog" "strokesOfMarks" "[I" ∈ lw_all := lw_all_in (List.mem_of_getElem? (i := 284) (by decide +kernel)) rfl
theorem k_286 : Cond.lays RX5 "MinsterClock$StrikeLog" "struck" "I" ∈ lw_all := lw_all_in (List.mem_of_getElem? (i := 286) (by decide +kernel)) rfl
theorem k_288 : Cond.lays RX5 "MinsterClock$StrikeLog" "allStrokes" "J" ∈ lw_all := lw_all_in (List.mem_of_getElem? (i := 288) (by decide +kernel)) rfl
theorem k_291 : Cond.methodLink RX8 54 yX1_numberByYears ∈ lw_all := lw_all_in (List.mem_of_getElem? (i := 291) (by decide +kernel)) rfl
theorem k_292 : Cond.static yX1_numberByYears ∈ lw_all := lw_all_in (List.mem_of_getElem? (i := 292) (by decide +kernel)) rfl
theorem k_293 : Cond.code yX1_numberByYears cX1_numberByYears 3 (some .long) ∈ lw_all := lw_all_in (List.mem_of_getElem? (i := 293) (by decide +kernel)) rfl
theorem k_294 : Cond.methodLink RX1 19 yX1_daysBeforeYear ∈ lw_all := lw_all_in (List.mem_of_getElem? (i := 294) (by decide +kernel)) rfl
theorem k_295 : Cond.static yX1_daysBeforeYear ∈ lw_all := lw_all_in (List.mem_of_getElem? (i := 295) (by decide +kernel)) rfl
theorem k_296 : Cond.code yX1_daysBeforeYear cX1_daysBeforeYear 3 (some .long) ∈ lw_all := lw_all_in (List.mem_of_getElem? (i := 296) (by decide +kernel)) rfl
theorem k_297 : Cond.constantLong RX1 32 (365) ∈ lw_all := lw_all_in (List.mem_of_getElem? (i := 297) (by decide +kernel)) rfl
theorem k_298 : Cond.constantLong RX1 57 (4) ∈ lw_all := lw_all_in (List.mem_of_getElem? (i := 298) (by decide +kernel)) rfl
theorem k_299 : Cond.constantLong RX1 55 (100) ∈ lw_all := lw_all_in (List.mem_of_getElem? (i := 299) (by decide +kernel)) rfl
theorem k_300 : Cond.constantLong RX1 53 (400) ∈ lw_all := lw_all_in (List.mem_of_getElem? (i := 300) (by decide +kernel)) rfl
theorem k_301 : Cond.methodLink RX1 23 yX1_daysBeforeMonth ∈ lw_all := lw_all_in (List.mem_of_getElem? (i := 301) (by decide +kernel)) rfl
theorem k_302 : Cond.static yX1_daysBeforeMonth ∈ lw_all := lw_all_in (List.mem_of_getElem? (i := 302) (by decide +kernel)) rfl
theorem k_303 : Cond.code yX1_daysBeforeMonth cX1_daysBeforeMonth 2 (some .int) ∈ lw_all := lw_all_in (List.mem_of_getElem? (i := 303) (by decide +kernel)) rfl
theorem k_304 : Cond.fieldLink RX1 70 "MinsterClock$Dates" "DAYS_BEFORE_MONTHS" "[I" ∈ lw_all := lw_all_in (List.mem_of_getElem? (i := 304) (by decide +kernel)) rfl
theorem k_307 : Cond.static yX8_isWithin ∈ lw_all := lw_all_in (List.mem_of_getElem? (i := 307) (by decide +kernel)) rfl
theorem k_308 : Cond.code yX8_isWithin cX8_isWithin 3 (some .boolean) ∈ lw_all := lw_all_in (List.mem_of_getElem? (i := 308) (by decide +kernel)) rfl
theorem k_309 : Cond.methodLink RX1 26 yX1_hasLeapDay ∈ lw_all := lw_all_in (List.mem_of_getElem? (i := 309) (by decide +kernel)) rfl
theorem k_310 : Cond.static yX1_hasLeapDay ∈ lw_all := lw_all_in (List.mem_of_getElem? (i := 310) (by decide +kernel)) rfl
theorem k_311 : Cond.code yX1_hasLeapDay cX1_hasLeapDay 1 (some .boolean) ∈ lw_all := lw_all_in (List.mem_of_getElem? (i := 311) (by decide +kernel)) rfl
theorem k_312 : Cond.fieldLink RX8 10 "MinsterClock" "train" "LMinsterClock$Train;" ∈ lw_all := lw_all_in (List.mem_of_getElem? (i := 312) (by decide +kernel)) rfl
theorem k_313 : Cond.fieldLink RX8 19 "MinsterClock" "pace" "LMinsterClock$Pace;" ∈ lw_all := lw_all_in (List.mem_of_getElem? (i := 313) (by decide +kernel)) rfl
theorem k_314 : Cond.fieldLink RX8 26 "MinsterClock" "hands" "LMinsterClock$Hands;" ∈ lw_all := lw_all_in (List.mem_of_getElem? (i := 314) (by decide +kernel)) rfl
theorem k_315 : Cond.fieldLink RX8 33 "MinsterClock" "bells" "LMinsterClock$Bells;" ∈ lw_all := lw_all_in (List.mem_of_getElem? (i := 315) (by decide +kernel)) rfl
theorem k_316 : Cond.fieldLink RX8 40 "MinsterClock" "log" "LMinsterClock$StrikeLog;" ∈ lw_all := lw_all_in (List.mem_of_getElem? (i := 316) (by decide +kernel)) rfl
theorem k_317 : Cond.fieldLink RX8 44 "MinsterClock" "trialPace" "LMinsterClock$Pace;" ∈ lw_all := lw_all_in (List.mem_of_getElem? (i := 317) (by decide +kernel)) rfl
theorem k_318 : Cond.fieldLink RX8 47 "MinsterClock" "trialHands" "LMinsterClock$Hands;" ∈ lw_all := lw_all_in (List.mem_of_getElem? (i := 318) (by decide +kernel)) rfl
theorem k_319 : Cond.fieldLink RX8 50 "MinsterClock" "beatsPassed" "J" ∈ lw_all := lw_all_in (List.mem_of_getElem? (i := 319) (by decide +kernel)) rfl
theorem k_320 : Cond.fieldLink RX8 60 "MinsterClock" "dateOfShownZero" "J" ∈ lw_all := lw_all_in (List.mem_of_getElem? (i := 320) (by decide +kernel)) rfl
theorem k_321 : Cond.laysFinal RX8 "MinsterClock" "train" "LMinsterClock$Train;" ∈ lw_all := lw_all_in (List.mem_of_getElem? (i := 321) (by decide +kernel)) rfl
theorem k_323 : Cond.laysFinal RX8 "MinsterClock" "pace" "LMinsterClock$Pace;" ∈ lw_all := lw_all_in (List.mem_of_getElem? (i := 323) (by decide +kernel)) rfl
theorem k_325 : Cond.laysFinal RX8 "MinsterClock" "hands" "LMinsterClock$Hands;" ∈ lw_all := lw_all_in (List.mem_of_getElem? (i := 325) (by decide +kernel)) rfl
theorem k_327 : Cond.laysFinal RX8 "MinsterClock" "bells" "LMinsterClock$Bells;" ∈ lw_all := lw_all_in (List.mem_of_getElem? (i := 327) (by decide +kernel)) rfl
theorem k_329 : Cond.laysFinal RX8 "MinsterClock" "log" "LMinsterClock$StrikeLog;" ∈ lw_all := lw_all_in (List.mem_of_getElem? (i := 329) (by decide +kernel)) rfl
theorem k_331 : Cond.laysFinal RX8 "MinsterClock" "trialPace" "LMinsterClock$Pace;" ∈ lw_all := lw_all_in (List.mem_of_getElem? (i := 331) (by decide +kernel)) rfl
theorem k_333 : Cond.laysFinal RX8 "MinsterClock" "trialHands" "LMinsterClock$Hands;" ∈ lw_all := lw_all_in (List.mem_of_getElem? (i := 333) (by decide +kernel)) rfl
theorem k_335 : Cond.lays RX8 "MinsterClock" "beatsPassed" "J" ∈ lw_all := lw_all_in (List.mem_of_getElem? (i := 335) (by decide +kernel)) rfl
theorem k_337 : Cond.lays RX8 "MinsterClock" "dateOfShownZero" "J" ∈ lw_all := lw_all_in (List.mem_of_getElem? (i := 337) (by decide +kernel)) rfl
theorem k_340 : Cond.methodLink RL 156 yX8_wheels ∈ lw_all := lw_all_in (List.mem_of_getElem? (i := 340) (by decide +kernel)) rfl
theorem k_341 : Cond.instanceMethod yX8_wheels ∈ lw_all := lw_all_in (List.mem_of_getElem? (i := 341) (by decide +kernel)) rfl
theorem k_342 : Cond.selects RX8 yX8_wheels yX8_wheels ∈ lw_all := lw_all_in (List.mem_of_getElem? (i := 342) (by decide +kernel)) rfl
theorem k_343 : Cond.code yX8_wheels cX8_wheels 1 (some .int) ∈ lw_all := lw_all_in (List.mem_of_getElem? (i := 343) (by decide +kernel)) rfl
theorem k_344 : Cond.methodLink RX8 74 yX6_size ∈ lw_all := lw_all_in (List.mem_of_getElem? (i := 344) (by decide +kernel)) rfl
theorem k_345 : Cond.instanceMethod yX6_size ∈ lw_all := lw_all_in (List.mem_of_getElem? (i := 345) (by decide +kernel)) rfl
theorem k_346 : Cond.selects RX6 yX6_size yX6_size ∈ lw_all := lw_all_in (List.mem_of_getElem? (i := 346) (by decide +kernel)) rfl
theorem k_347 : Cond.code yX6_size cX6_size 1 (some .int) ∈ lw_all := lw_all_in (List.mem_of_getElem? (i := 347) (by decide +kernel)) rfl
theorem k_348 : Cond.methodLink RX6 25 yJx4a65c_size_8abf5 ∈ lw_all := lw_all_in (List.mem_of_getElem? (i := 348) (by decide +kernel)) rfl
theorem k_349 : Cond.instanceMethod yJx4a65c_size_8abf5 ∈ lw_all := lw_all_in (List.mem_of_getElem? (i := 349) (by decide +kernel)) rfl
theorem k_350 : Cond.selects RJx4a65c yJx4a65c_size_8abf5 yJx4a65c_size_8abf5 ∈ lw_all := lw_all_in (List.mem_of_getElem? (i := 350) (by decide +kernel)) rfl
theorem k_351 : Cond.code yJx4a65c_size_8abf5 cJx4a65c_size_8abf5 1 (some .int) ∈ lw_all := lw_all_in (List.mem_of_getElem? (i := 351) (by decide +kernel)) rfl
theorem k_352 : Cond.methodLink RL 173 yX8_shown ∈ lw_all := lw_all_in (List.mem_of_getElem? (i := 352) (by decide +kernel)) rfl
theorem k_353 : Cond.instanceMethod yX8_shown ∈ lw_all := lw_all_in (List.mem_of_getElem? (i := 353) (by decide +kernel)) rfl
theorem k_354 : Cond.selects RX8 yX8_shown yX8_shown ∈ lw_all := lw_all_in (List.mem_of_getElem? (i := 354) (by decide +kernel)) rfl
theorem k_355 : Cond.code yX8_shown cX8_shown 1 (some .int) ∈ lw_all := lw_all_in (List.mem_of_getElem? (i := 355) (by decide +kernel)) rfl
theorem k_356 : Cond.methodLink RX8 123 yX3_seconds ∈ lw_all := lw_all_in (List.mem_of_getElem? (i := 356) (by decide +kernel)) rfl
theorem k_357 : Cond.instanceMethod yX3_seconds ∈ lw_all := lw_all_in (List.mem_of_getElem? (i := 357) (by decide +kernel)) rfl
theorem k_358 : Cond.selects RX3 yX3_seconds yX3_seconds ∈ lw_all := lw_all_in (List.mem_of_getElem? (i := 358) (by decide +kernel)) rfl
theorem k_359 : Cond.code yX3_seconds cX3_seconds 1 (some .int) ∈ lw_all := lw_all_in (List.mem_of_getElem? (i := 359) (by decide +kernel)) rfl
theorem k_360 : Cond.methodLink RL 242 yX8_minute ∈ lw_all := lw_all_in (List.mem_of_getElem? (i := 360) (by decide +kernel)) rfl
theorem k_361 : Cond.instanceMethod yX8_minute ∈ lw_all := lw_all_in (List.mem_of_getElem? (i := 361) (by decide +kernel)) rfl
theorem k_362 : Cond.selects RX8 yX8_minute yX8_minute ∈ lw_all := lw_all_in (List.mem_of_getElem? (i := 362) (by decide +kernel)) rfl
theorem k_363 : Cond.code yX8_minute cX8_minute 1 (some .int) ∈ lw_all := lw_all_in (List.mem_of_getElem? (i := 363) (by decide +kernel)) rfl
theorem k_364 : Cond.methodLink RX8 129 yJ9_floorDiv_7cf53 ∈ lw_all := lw_all_in (List.mem_of_getElem? (i := 364) (by decide +kernel)) rfl
theorem k_365 : Cond.static yJ9_floorDiv_7cf53 ∈ lw_all := lw_all_in (List.mem_of_getElem? (i := 365) (by decide +kernel)) rfl
theorem k_366 : Cond.code yJ9_floorDiv_7cf53 cJ9_floorDiv_7cf53 3 (some .int) ∈ lw_all := lw_all_in (List.mem_of_getElem? (i := 366) (by decide +kernel)) rfl
theorem k_367 : Cond.methodLink RX8 134 yJ9_floorMod_7cf53 ∈ lw_all := lw_all_in (List.mem_of_getElem? (i := 367) (by decide +kernel)) rfl
theorem k_368 : Cond.static yJ9_floorMod_7cf53 ∈ lw_all := lw_all_in (List.mem_of_getElem? (i := 368) (by decide +kernel)) rfl
theorem k_369 : Cond.code yJ9_floorMod_7cf53 cJ9_floorMod_7cf53 3 (some .int) ∈ lw_all := lw_all_in (List.mem_of_getElem? (i := 369) (by decide +kernel)) rfl
theorem k_370 : Cond.methodLink RL 176 yX8_year ∈ lw_all := lw_all_in (List.mem_of_getElem? (i := 370) (by decide +kernel)) rfl
theorem k_371 : Cond.instanceMethod yX8_year ∈ lw_all := lw_all_in (List.mem_of_getElem? (i := 371) (by decide +kernel)) rfl
theorem k_372 : Cond.selects RX8 yX8_year yX8_year ∈ lw_all := lw_all_in (List.mem_of_getElem? (i := 372) (by decide +kernel)) rfl
theorem k_373 : Cond.code yX8_year cX8_year 1 (some .int) ∈ lw_all := lw_all_in (List.mem_of_getElem? (i := 373) (by decide +kernel)) rfl
theorem k_374 : Cond.methodLink RX8 165 yX8_dateShown ∈ lw_all := lw_all_in (List.mem_of_getElem? (i := 374) (by decide +kernel)) rfl
theorem k_376 : Cond.instanceMethod yX8_dateShown ∈ lw_all := lw_all_in (List.mem_of_getElem? (i := 376) (by decide +kernel)) rfl
theorem k_377 : Cond.code yX8_dateShown cX8_dateShown 1 (some .long) ∈ lw_all := lw_all_in (List.mem_of_getElem? (i := 377) (by decide +kernel)) rfl
theorem k_378 : Cond.methodLink RX8 158 yX8_wholeDaysShown ∈ lw_all := lw_all_in (List.mem_of_getElem? (i := 378) (by decide +kernel)) rfl
theorem k_380 : Cond.instanceMethod yX8_wholeDaysShown ∈ lw_all := lw_all_in (List.mem_of_getElem? (i := 380) (by decide +kernel)) rfl
theorem k_381 : Cond.code yX8_wholeDaysShown cX8_wholeDaysShown 1 (some .int) ∈ lw_all := lw_all_in (List.mem_of_getElem? (i := 381) (by decide +kernel)) rfl
theorem k_382 : Cond.constant RX8 311 (86400) ∈ lw_all := lw_all_in (List.mem_of_getElem? (i := 382) (by decide +kernel)) rfl
theorem k_383 : Cond.methodLink RX8 169 yX1_yearOf ∈ lw_all := lw_all_in (List.mem_of_getElem? (i := 383) (by decide +kernel)) rfl
theorem k_384 : Cond.static yX1_yearOf ∈ lw_all := lw_all_in (List.mem_of_getElem? (i := 384) (by decide +kernel)) rfl
theorem k_385 : Cond.code yX1_yearOf cX1_yearOf 12 (some .int) ∈ lw_all := lw_all_in (List.mem_of_getElem? (i := 385) (by decide +kernel)) rfl
theorem k_386 : Cond.constantLong RX1 42 (146097) ∈ lw_all := lw_all_in (List.mem_of_getElem? (i := 386) (by decide +kernel)) rfl
theorem k_387 : Cond.constantLong RX1 44 (3) ∈ lw_all := lw_all_in (List.mem_of_getElem? (i := 387) (by decide +kernel)) rfl
theorem k_388 : Cond.constantLong RX1 46 (36524) ∈ lw_all := lw_all_in (List.mem_of_getElem? (i := 388) (by decide +kernel)) rfl
theorem k_389 : Cond.methodLink RX1 48 Lib.MathLoose.min_long.x ∈ lw_all := lw_all_in (List.mem_of_getElem? (i := 389) (by decide +kernel)) rfl
theorem k_390 : Cond.static Lib.MathLoose.min_long.x ∈ lw_all := lw_all_in (List.mem_of_getElem? (i := 390) (by decide +kernel)) rfl
theorem k_391 : Cond.code Lib.MathLoose.min_long.x Lib.MathLoose.min_long.code 4 (some .long) ∈ lw_all := lw_all_in (List.mem_of_getElem? (i := 391) (by decide +kernel)) rfl
theorem k_392 : Cond.constantLong RX1 51 (1461) ∈ lw_all := lw_all_in (List.mem_of_getElem? (i := 392) (by decide +kernel)) rfl
theorem k_393 : Cond.methodLink RL 179 yX8_month ∈ lw_all := lw_all_in (List.mem_of_getElem? (i := 393) (by decide +kernel)) rfl
theorem k_394 : Cond.instanceMethod yX8_month ∈ lw_all := lw_all_in (List.mem_of_getElem? (i := 394) (by decide +kernel)) rfl
theorem k_395 : Cond.selects RX8 yX8_month yX8_month ∈ lw_all := lw_all_in (List.mem_of_getElem? (i := 395) (by decide +kernel)) rfl
theorem k_396 : Cond.code yX8_month cX8_month 1 (some .int) ∈ lw_all := lw_all_in (List.mem_of_getElem? (i := 396) (by decide +kernel)) rfl
theorem k_397 : Cond.methodLink RX8 172 yX1_monthOf ∈ lw_all := lw_all_in (List.mem_of_getElem? (i := 397) (by decide +kernel)) rfl
theorem k_398 : Cond.static yX1_monthOf ∈ lw_all := lw_all_in (List.mem_of_getElem? (i := 398) (by decide +kernel)) rfl
theorem k_399 : Cond.code yX1_monthOf cX1_monthOf 6 (some .int) ∈ lw_all := lw_all_in (List.mem_of_getElem? (i := 399) (by decide +kernel)) rfl
theorem k_400 : Cond.methodLink RX1 59 yX1_yearOf ∈ lw_all := lw_all_in (List.mem_of_getElem? (i := 400) (by decide +kernel)) rfl
theorem k_401 : Cond.methodLink RL 182 yX8_day ∈ lw_all := lw_all_in (List.mem_of_getElem? (i := 401) (by decide +kernel)) rfl
theorem k_402 : Cond.instanceMethod yX8_day ∈ lw_all := lw_all_in (List.mem_of_getElem? (i := 402) (by decide +kernel)) rfl
theorem k_403 : Cond.selects RX8 yX8_day yX8_day ∈ lw_all := lw_all_in (List.mem_of_getElem? (i := 403) (by decide +kernel)) rfl
theorem k_404 : Cond.code yX8_day cX8_day 1 (some .int) ∈ lw_all := lw_all_in (List.mem_of_getElem? (i := 404) (by decide +kernel)) rfl
theorem k_405 : Cond.methodLink RX8 175 yX1_dayOf ∈ lw_all := lw_all_in (List.mem_of_getElem? (i := 405) (by decide +kernel)) rfl
theorem k_406 : Cond.static yX1_dayOf ∈ lw_all := lw_all_in (List.mem_of_getElem? (i := 406) (by decide +kernel)) rfl
theorem k_407 : Cond.code yX1_dayOf cX1_dayOf 3 (some .int) ∈ lw_all := lw_all_in (List.mem_of_getElem? (i := 407) (by decide +kernel)) rfl
theorem k_408 : Cond.methodLink RX1 63 yX1_monthOf ∈ lw_all := lw_all_in (List.mem_of_getElem? (i := 408) (by decide +kernel)) rfl
theorem k_409 : Cond.methodLink RL 185 yX8_weekday ∈ lw_all := lw_all_in (List.mem_of_getElem? (i := 409) (by decide +kernel)) rfl
theorem k_410 : Cond.instanceMethod yX8_weekday ∈ lw_all := lw_all_in (List.mem_of_getElem? (i := 410) (by decide +kernel)) rfl
theorem k_411 : Cond.selects RX8 yX8_weekday yX8_weekday ∈ lw_all := lw_all_in (List.mem_of_getElem? (i := 411) (by decide +kernel)) rfl
theorem k_412 : Cond.code yX8_weekday cX8_weekday 1 (some .int) ∈ lw_all := lw_all_in (List.mem_of_getElem? (i := 412) (by decide +kernel)) rfl
theorem k_413 : Cond.methodLink RX8 161 yX1_weekdayOf ∈ lw_all := lw_all_in (List.mem_of_getElem? (i := 413) (by decide +kernel)) rfl
theorem k_414 : Cond.static yX1_weekdayOf ∈ lw_all := lw_all_in (List.mem_of_getElem? (i := 414) (by decide +kernel)) rfl
theorem k_415 : Cond.code yX1_weekdayOf cX1_weekdayOf 2 (some .int) ∈ lw_all := lw_all_in (List.mem_of_getElem? (i := 415) (by decide +kernel)) rfl
theorem k_416 : Cond.constantLong RX1 34 (7) ∈ lw_all := lw_all_in (List.mem_of_getElem? (i := 416) (by decide +kernel)) rfl
theorem k_417 : Cond.methodLink RX1 36 yJ9_floorMod_f86c9 ∈ lw_all := lw_all_in (List.mem_of_getElem? (i := 417) (by decide +kernel)) rfl
theorem k_418 : Cond.static yJ9_floorMod_f86c9 ∈ lw_all := lw_all_in (List.mem_of_getElem? (i := 418) (by decide +kernel)) rfl
theorem k_419 : Cond.code yJ9_floorMod_f86c9 cJ9_floorMod_f86c9 6 (some .long) ∈ lw_all := lw_all_in (List.mem_of_getElem? (i := 419) (by decide +kernel)) rfl
theorem k_420 : Cond.methodLink RL 188 yX8_strikes ∈ lw_all := lw_all_in (List.mem_of_getElem? (i := 420) (by decide +kernel)) rfl
theorem k_421 : Cond.instanceMethod yX8_strikes ∈ lw_all := lw_all_in (List.mem_of_getElem? (i := 421) (by decide +kernel)) rfl
theorem k_422 : Cond.selects RX8 yX8_strikes yX8_strikes ∈ lw_all := lw_all_in (List.mem_of_getElem? (i := 422) (by decide +kernel)) rfl
theorem k_423 : Cond.code yX8_strikes cX8_strikes 1 (some .int) ∈ lw_all := lw_all_in (List.mem_of_getElem? (i := 423) (by decide +kernel)) rfl
theorem k_424 : Cond.methodLink RX8 247 yX5_struckMarks ∈ lw_all := lw_all_in (List.mem_of_getElem? (i := 424) (by decide +kernel)) rfl
theorem k_425 : Cond.instanceMethod yX5_struckMarks ∈ lw_all := lw_all_in (List.mem_of_getElem? (i := 425) (by decide +kernel)) rfl
theorem k_426 : Cond.selects RX5 yX5_struckMarks yX5_struckMarks ∈ lw_all := lw_all_in (List.mem_of_getElem? (i := 426) (by decide +kernel)) rfl
theorem k_427 : Cond.code yX5_struckMarks cX5_struckMarks 1 (some .int) ∈ lw_all := lw_all_in (List.mem_of_getElem? (i := 427) (by decide +kernel)) rfl
theorem k_428 : Cond.classLink RL 113 RX9 ∈ lw_all := lw_all_in (List.mem_of_getElem? (i := 428) (by decide +kernel)) rfl
theorem k_429 : Cond.instantiable RX9 1 ∈ lw_all := lw_all_in (List.mem_of_getElem? (i := 429) (by decide +kernel)) rfl
theorem k_430 : Cond.methodLink RL 265 yX9_init ∈ lw_all := lw_all_in (List.mem_of_getElem? (i := 430) (by decide +kernel)) rfl
theorem k_431 : Cond.instanceMethod yX9_init ∈ lw_all := lw_all_in (List.mem_of_getElem? (i := 431) (by decide +kernel)) rfl
theorem k_432 : Cond.code yX9_init cX9_init 2 none ∈ lw_all := lw_all_in (List.mem_of_getElem? (i := 432) (by decide +kernel)) rfl
theorem k_433 : Cond.methodLink RX9 1 objectInit ∈ lw_all := lw_all_in (List.mem_of_getElem? (i := 433) (by decide +kernel)) rfl
theorem k_434 : Cond.constant RX9 7 (48271) ∈ lw_all := lw_all_in (List.mem_of_getElem? (i := 434) (by decide +kernel)) rfl
theorem k_435 : Cond.fieldLink RX9 8 "MinsterClockLaw$Draw" "state" "I" ∈ lw_all := lw_all_in (List.mem_of_getElem? (i := 435) (by decide +kernel)) rfl
theorem k_436 : Cond.lays RX9 "MinsterClockLaw$Draw" "state" "I" ∈ lw_all := lw_all_in (List.mem_of_getElem? (i := 436) (by decide +kernel)) rfl
theorem k_439 : Cond.methodLink RL 112 yX9_next ∈ lw_all := lw_all_in (List.mem_of_getElem? (i := 439) (by decide +kernel)) rfl
theorem k_440 : Cond.instanceMethod yX9_next ∈ lw_all := lw_all_in (List.mem_of_getElem? (i := 440) (by decide +kernel)) rfl
theorem k_441 : Cond.selects RX9 yX9_next yX9_next ∈ lw_all := lw_all_in (List.mem_of_getElem? (i := 441) (by decide +kernel)) rfl
theorem k_442 : Cond.code yX9_next cX9_next 2 (some .int) ∈ lw_all := lw_all_in (List.mem_of_getElem? (i := 442) (by decide +kernel)) rfl
theorem k_443 : Cond.constant RX9 14 (1103515245) ∈ lw_all := lw_all_in (List.mem_of_getElem? (i := 443) (by decide +kernel)) rfl
theorem k_444 : Cond.methodLink RX9 15 Lib.Math.max.name ∈ lw_all := lw_all_in (List.mem_of_getElem? (i := 444) (by decide +kernel)) rfl
theorem k_445 : Cond.methodLink RL 261 yL_cell ∈ lw_all := lw_all_in (List.mem_of_getElem? (i := 445) (by decide +kernel)) rfl
theorem k_446 : Cond.static yL_cell ∈ lw_all := lw_all_in (List.mem_of_getElem? (i := 446) (by decide +kernel)) rfl
theorem k_447 : Cond.code yL_cell cL_cell 2 (some .int) ∈ lw_all := lw_all_in (List.mem_of_getElem? (i := 447) (by decide +kernel)) rfl
theorem k_448 : Cond.constant RL 7 (65535) ∈ lw_all := lw_all_in (List.mem_of_getElem? (i := 448) (by decide +kernel)) rfl
theorem k_449 : Cond.methodLink RL 117 yL_addWheel ∈ lw_all := lw_all_in (List.mem_of_getElem? (i := 449) (by decide +kernel)) rfl
theorem k_450 : Cond.static yL_addWheel ∈ lw_all := lw_all_in (List.mem_of_getElem? (i := 450) (by decide +kernel)) rfl
theorem k_452 : Cond.classLink RL 14 "java/lang/IllegalArgumentException" ∈ lw_all := lw_all_in (List.mem_of_getElem? (i := 452) (by decide +kernel)) rfl
theorem k_453 : Cond.classLink RL 16 "java/lang/IllegalStateException" ∈ lw_all := lw_all_in (List.mem_of_getElem? (i := 453) (by decide +kernel)) rfl
theorem k_454 : Cond.methodLink RL 8 yX8_addWheel ∈ lw_all := lw_all_in (List.mem_of_getElem? (i := 454) (by decide +kernel)) rfl
theorem k_455 : Cond.instanceMethod yX8_addWheel ∈ lw_all := lw_all_in (List.mem_of_getElem? (i := 455) (by decide +kernel)) rfl
theorem k_456 : Cond.selects RX8 yX8_addWheel yX8_addWheel ∈ lw_all := lw_all_in (List.mem_of_getElem? (i := 456) (by decide +kernel)) rfl
theorem k_457 : Cond.code yX8_addWheel cX8_addWheel 3 (some .int) ∈ lw_all := lw_all_in (List.mem_of_getElem? (i := 457) (by decide +kernel)) rfl
theorem k_458 : Cond.methodLink RX8 63 yX8_isWithin ∈ lw_all := lw_all_in (List.mem_of_getElem? (i := 458) (by decide +kernel)) rfl
theorem k_459 : Cond.classLink RX8 67 "java/lang/IllegalArgumentException" ∈ lw_all := lw_all_in (List.mem_of_getElem? (i := 459) (by decide +kernel)) rfl
theorem k_460 : Cond.instantiable "java/lang/IllegalArgumentException" 6 ∈ lw_all := lw_all_in (List.mem_of_getElem? (i := 460) (by decide +kernel)) rfl
theorem k_468 : Cond.selects "java/lang/IllegalArgumentException" ⟨"java/lang/Throwable", "fillInStackTrace", "(I)Ljava/lang/Throwable;"⟩ ⟨"java/lang/Throwable", "fillInStackTrace", "(I)Ljava/lang/Throwable;"⟩ ∈ lw_all := lw_all_in (List.mem_of_getElem? (i := 468) (by decide +kernel)) rfl
theorem k_469 : Cond.selects "java/lang/IllegalArgumentException" ⟨"java/lang/Throwable", "fillInStackTrace", "()Ljava/lang/Throwable;"⟩ ⟨"java/lang/Throwable", "fillInStackTrace", "()Ljava/lang/Throwable;"⟩ ∈ lw_all := lw_all_in (List.mem_of_getElem? (i := 469) (by decide +kernel)) rfl
theorem k_470 : Cond.lays "java/lang/IllegalArgumentException" "java/lang/Throwable" "cause" "Ljava/lang/Throwable;" ∈ lw_all := lw_all_in (List.mem_of_getElem? (i := 470) (by decide +kernel)) rfl
theorem k_471 : Cond.lays "java/lang/Throwable" "java/lang/Throwable" "cause" "Ljava/lang/Throwable;" ∈ lw_all := lw_all_in (List.mem_of_getElem? (i := 471) (by decide +kernel)) rfl
theorem k_472 : Cond.lays "java/lang/IllegalArgumentException" "java/lang/Throwable" "stackTrace" "[Ljava/lang/StackTraceElement;" ∈ lw_all := lw_all_in (List.mem_of_getElem? (i := 472) (by decide +kernel)) rfl
theorem k_473 : Cond.lays "java/lang/Throwable" "java/lang/Throwable" "stackTrace" "[Ljava/lang/StackTraceElement;" ∈ lw_all := lw_all_in (List.mem_of_getElem? (i := 473) (by decide +kernel)) rfl
theorem k_474 : Cond.lays "java/lang/IllegalArgumentException" "java/lang/Throwable" "suppressedExceptions" "Ljava/util/List;" ∈ lw_all := lw_all_in (List.mem_of_getElem? (i := 474) (by decide +kernel)) rfl
theorem k_475 : Cond.lays "java/lang/Throwable" "java/lang/Throwable" "suppressedExceptions" "Ljava/util/List;" ∈ lw_all := lw_all_in (List.mem_of_getElem? (i := 475) (by decide +kernel)) rfl
theorem k_476 : Cond.lays "java/lang/IllegalArgumentException" "java/lang/Throwable" "detailMessage" "Ljava/lang/String;" ∈ lw_all := lw_all_in (List.mem_of_getElem? (i := 476) (by decide +kernel)) rfl
theorem k_477 : Cond.lays "java/lang/Throwable" "java/lang/Throwable" "detailMessage" "Ljava/lang/String;" ∈ lw_all := lw_all_in (List.mem_of_getElem? (i := 477) (by decide +kernel)) rfl
theorem k_478 : Cond.lays "java/lang/IllegalArgumentException" "java/lang/Throwable" "backtrace" "Ljava/lang/Object;" ∈ lw_all := lw_all_in (List.mem_of_getElem? (i := 478) (by decide +kernel)) rfl
theorem k_479 : Cond.lays "java/lang/Throwable" "java/lang/Throwable" "backtrace" "Ljava/lang/Object;" ∈ lw_all := lw_all_in (List.mem_of_getElem? (i := 479) (by decide +kernel)) rfl
theorem k_480 : Cond.fieldLink "java/lang/Throwable" 198 "java/lang/Throwable" "backtrace" "Ljava/lang/Object;" ∈ lw_all := lw_all_in (List.mem_of_getElem? (i := 480) (by decide +kernel)) rfl
theorem k_482 : Cond.instanceMethod ⟨"java/lang/Throwable", "<init>", "()V"⟩ ∈ lw_all := lw_all_in (List.mem_of_getElem? (i := 482) (by decide +kernel)) rfl
theorem k_484 : Cond.methodLink "java/lang/Throwable" 1 objectInit ∈ lw_all := lw_all_in (List.mem_of_getElem? (i := 484) (by decide +kernel)) rfl
theorem k_485 : Cond.fieldLink "java/lang/Throwable" 13 "java/lang/Throwable" "UNASSIGNED_STACK" "[Ljava/lang/StackTraceElement;" ∈ lw_all := lw_all_in (List.mem_of_getElem? (i := 485) (by decide +kernel)) rfl
theorem k_487 : Cond.fieldLink "java/lang/Throwable" 20 "java/lang/Throwable" "SUPPRESSED_SENTINEL" "Ljava/util/List;" ∈ lw_all := lw_all_in (List.mem_of_getElem? (i := 487) (by decide +kernel)) rfl
theorem k_489 : Cond.methodLink "java/lang/Throwable" 27 ⟨"java/lang/Throwable", "fillInStackTrace", "()Ljava/lang/Throwable;"⟩ ∈ lw_all := lw_all_in (List.mem_of_getElem? (i := 489) (by decide +kernel)) rfl
theorem k_490 : Cond.instanceMethod ⟨"java/lang/Throwable", "fillInStackTrace", "()Ljava/lang/Throwable;"⟩ ∈ lw_all := lw_all_in (List.mem_of_getElem? (i := 490) (by decide +kernel)) rfl
theorem k_491 : Cond.sameMethod "java/lang/Throwable" "java/lang/Throwable" "fillInStackTrace" "()Ljava/lang/Throwable;" ∈ lw_all := lw_all_in (List.mem_of_getElem? (i := 491) (by decide +kernel)) rfl
theorem k_492 : Cond.selects "java/lang/ArithmeticException" ⟨"java/lang/Throwable", "fillInStackTrace", "()Ljava/lang/Throwable;"⟩ ⟨"java/lang/Throwable", "fillInStackTrace", "()Ljava/lang/Throwable;"⟩ ∈ lw_all := lw_all_in (List.mem_of_getElem? (i := 492) (by decide +kernel)) rfl
theorem k_493 : Cond.selects RJx00060 ⟨"java/lang/Throwable", "fillInStackTrace", "()Ljava/lang/Throwable;"⟩ ⟨"java/lang/Throwable", "fillInStackTrace", "()Ljava/lang/Throwable;"⟩ ∈ lw_all := lw_all_in (List.mem_of_getElem? (i := 493) (by decide +kernel)) rfl
theorem k_494 : Cond.selects "java/lang/IllegalStateException" ⟨"java/lang/Throwable", "fillInStackTrace", "()Ljava/lang/Throwable;"⟩ ⟨"java/lang/Throwable", "fillInStackTrace", "()Ljava/lang/Throwable;"⟩ ∈ lw_all := lw_all_in (List.mem_of_getElem? (i := 494) (by decide +kernel)) rfl
theorem k_495 : Cond.selects "java/lang/IndexOutOfBoundsException" ⟨"java/lang/Throwable", "fillInStackTrace", "()Ljava/lang/Throwable;"⟩ ⟨"java/lang/Throwable", "fillInStackTrace", "()Ljava/lang/Throwable;"⟩ ∈ lw_all := lw_all_in (List.mem_of_getElem? (i := 495) (by decide +kernel)) rfl
theorem k_496 : Cond.selects "java/util/NoSuchElementException" ⟨"java/lang/Throwable", "fillInStackTrace", "()Ljava/lang/Throwable;"⟩ ⟨"java/lang/Throwable", "fillInStackTrace", "()Ljava/lang/Throwable;"⟩ ∈ lw_all := lw_all_in (List.mem_of_getElem? (i := 496) (by decide +kernel)) rfl
theorem k_498 : Cond.methodLink "java/lang/Throwable" 202 ⟨"java/lang/Throwable", "fillInStackTrace", "(I)Ljava/lang/Throwable;"⟩ ∈ lw_all := lw_all_in (List.mem_of_getElem? (i := 498) (by decide +kernel)) rfl
theorem k_500 : Cond.instanceMethod ⟨"java/lang/Throwable", "fillInStackTrace", "(I)Ljava/lang/Throwable;"⟩ ∈ lw_all := lw_all_in (List.mem_of_getElem? (i := 500) (by decide +kernel)) rfl
theorem k_501 : Cond.instantiable "java/lang/Throwable" 6 ∈ lw_all := lw_all_in (List.mem_of_getElem? (i := 501) (by decide +kernel)) rfl
theorem k_502 : Cond.native ⟨"java/lang/Throwable", "fillInStackTrace", "(I)Ljava/lang/Throwable;"⟩ ∈ lw_all := lw_all_in (List.mem_of_getElem? (i := 502) (by decide +kernel)) rfl
theorem k_504 : Cond.methodLink RX8 71 ⟨"java/lang/IllegalArgumentException", "<init>", "(Ljava/lang/String;)V"⟩ ∈ lw_all := lw_all_in (List.mem_of_getElem? (i := 504) (by decide +kernel)) rfl
theorem k_505 : Cond.instanceMethod ⟨"java/lang/IllegalArgumentException", "<init>", "(Ljava/lang/String;)V"⟩ ∈ lw_all := lw_all_in (List.mem_of_getElem? (i := 505) (by decide +kernel)) rfl
theorem k_507 : Cond.methodLink "java/lang/IllegalArgumentException" 7 ⟨"java/lang/RuntimeException", "<init>", "(Ljava/lang/String;)V"⟩ ∈ lw_all := lw_all_in (List.mem_of_getElem? (i := 507) (by decide +kernel)) rfl
theorem k_508 : Cond.instanceMethod ⟨"java/lang/RuntimeException", "<init>", "(Ljava/lang/String;)V"⟩ ∈ lw_all := lw_all_in (List.mem_of_getElem? (i := 508) (by decide +kernel)) rfl
theorem k_510 : Cond.methodLink "java/lang/RuntimeException" 7 ⟨"java/lang/Exception", "<init>", "(Ljava/lang/String;)V"⟩ ∈ lw_all := lw_all_in (List.mem_of_getElem? (i := 510) (by decide +kernel)) rfl
theorem k_511 : Cond.instanceMethod ⟨"java/lang/Exception", "<init>", "(Ljava/lang/String;)V"⟩ ∈ lw_all := lw_all_in (List.mem_of_getElem? (i := 511) (by decide +kernel)) rfl
theorem k_513 : Cond.methodLink "java/lang/Exception" 7 ⟨"java/lang/Throwable", "<init>", "(Ljava/lang/String;)V"⟩ ∈ lw_all := lw_all_in (List.mem_of_getElem? (i := 513) (by decide +kernel)) rfl
theorem k_514 : Cond.instanceMethod ⟨"java/lang/Throwable", "<init>", "(Ljava/lang/String;)V"⟩ ∈ lw_all := lw_all_in (List.mem_of_getElem? (i := 514) (by decide +kernel)) rfl
theorem k_517 : Cond.fieldLink "java/lang/Throwable" 31 "java/lang/Throwable" "detailMessage" "Ljava/lang/String;" ∈ lw_all := lw_all_in (List.mem_of_getElem? (i := 517) (by decide +kernel)) rfl
theorem k_518 : Cond.fieldLink "java/lang/Throwable" 7 "java/lang/Throwable" "cause" "Ljava/lang/Throwable;" ∈ lw_all := lw_all_in (List.mem_of_getElem? (i := 518) (by decide +kernel)) rfl
theorem k_519 : Cond.fieldLink "java/lang/Throwable" 17 "java/lang/Throwable" "stackTrace" "[Ljava/lang/StackTraceElement;" ∈ lw_all := lw_all_in (List.mem_of_getElem? (i := 519) (by decide +kernel)) rfl
theorem k_520 : Cond.fieldLink "java/lang/Throwable" 24 "java/lang/Throwable" "suppressedExceptions" "Ljava/util/List;" ∈ lw_all := lw_all_in (List.mem_of_getElem? (i := 520) (by decide +kernel)) rfl
theorem k_525 : Cond.lays "java/lang/IllegalArgumentException" "java/lang/Throwable" "depth" "I" ∈ lw_all := lw_all_in (List.mem_of_getElem? (i := 525) (by decide +kernel)) rfl
theorem k_529 : Cond.arrayClass .byte ∈ lw_all := lw_all_in (List.mem_of_getElem? (i := 529) (by decide +kernel)) rfl
theorem k_530 : Cond.classLink RX8 78 "java/lang/IllegalStateException" ∈ lw_all := lw_all_in (List.mem_of_getElem? (i := 530) (by decide +kernel)) rfl
theorem k_531 : Cond.instantiable "java/lang/IllegalStateException" 6 ∈ lw_all := lw_all_in (List.mem_of_getElem? (i := 531) (by decide +kernel)) rfl
theorem k_533 : Cond.selects "java/lang/IllegalStateException" ⟨"java/lang/Throwable", "fillInStackTrace", "(I)Ljava/lang/Throwable;"⟩ ⟨"java/lang/Throwable", "fillInStackTrace", "(I)Ljava/lang/Throwable;"⟩ ∈ lw_all := lw_all_in (List.mem_of_getElem? (i := 533) (by decide +kernel)) rfl
theorem k_534 : Cond.lays "java/lang/IllegalStateException" "java/lang/Throwable" "cause" "Ljava/lang/Throwable;" ∈ lw_all := lw_all_in (List.mem_of_getElem? (i := 534) (by decide +kernel)) rfl
theorem k_535 : Cond.lays "java/lang/IllegalStateException" "java/lang/Throwable" "stackTrace" "[Ljava/lang/StackTraceElement;" ∈ lw_all := lw_all_in (List.mem_of_getElem? (i := 535) (by decide +kernel)) rfl
theorem k_536 : Cond.lays "java/lang/IllegalStateException" "java/lang/Throwable" "suppressedExceptions" "Ljava/util/List;" ∈ lw_all := lw_all_in (List.mem_of_getElem? (i := 536) (by decide +kernel)) rfl
theorem k_537 : Cond.lays "java/lang/IllegalStateException" "java/lang/Throwable" "detailMessage" "Ljava/lang/String;" ∈ lw_all := lw_all_in (List.mem_of_getElem? (i := 537) (by decide +kernel)) rfl
theorem k_538 : Cond.lays "java/lang/IllegalStateException" "java/lang/Throwable" "backtrace" "Ljava/lang/Object;" ∈ lw_all := lw_all_in (List.mem_of_getElem? (i := 538) (by decide +kernel)) rfl
theorem k_540 : Cond.methodLink RX8 82 ⟨"java/lang/IllegalStateException", "<init>", "(Ljava/lang/String;)V"⟩ ∈ lw_all := lw_all_in (List.mem_of_getElem? (i := 540) (by decide +kernel)) rfl
theorem k_541 : Cond.instanceMethod ⟨"java/lang/IllegalStateException", "<init>", "(Ljava/lang/String;)V"⟩ ∈ lw_all := lw_all_in (List.mem_of_getElem? (i := 541) (by decide +kernel)) rfl
theorem k_543 : Cond.methodLink "java/lang/IllegalStateException" 7 ⟨"java/lang/RuntimeException", "<init>", "(Ljava/lang/String;)V"⟩ ∈ lw_all := lw_all_in (List.mem_of_getElem? (i := 543) (by decide +kernel)) rfl
theorem k_544 : Cond.lays "java/lang/IllegalStateException" "java/lang/Throwable" "depth" "I" ∈ lw_all := lw_all_in (List.mem_of_getElem? (i := 544) (by decide +kernel)) rfl
theorem k_546 : Cond.methodLink RX8 83 yX6_add ∈ lw_all := lw_all_in (List.mem_of_getElem? (i := 546) (by decide +kernel)) rfl
theorem k_547 : Cond.instanceMethod yX6_add ∈ lw_all := lw_all_in (List.mem_of_getElem? (i := 547) (by decide +kernel)) rfl
theorem k_548 : Cond.selects RX6 yX6_add yX6_add ∈ lw_all := lw_all_in (List.mem_of_getElem? (i := 548) (by decide +kernel)) rfl
theorem k_549 : Cond.code yX6_add cX6_add 6 (some .int) ∈ lw_all := lw_all_in (List.mem_of_getElem? (i := 549) (by decide +kernel)) rfl
theorem k_550 : Cond.methodLink RX6 29 yX6_teethOf ∈ lw_all := lw_all_in (List.mem_of_getElem? (i := 550) (by decide +kernel)) rfl
theorem k_552 : Cond.instanceMethod yX6_teethOf ∈ lw_all := lw_all_in (List.mem_of_getElem? (i := 552) (by decide +kernel)) rfl
theorem k_553 : Cond.code yX6_teethOf cX6_teethOf 2 (some .int) ∈ lw_all := lw_all_in (List.mem_of_getElem? (i := 553) (by decide +kernel)) rfl
theorem k_554 : Cond.methodLink RX6 37 yJx4a65c_get_915e3 ∈ lw_all := lw_all_in (List.mem_of_getElem? (i := 554) (by decide +kernel)) rfl
theorem k_555 : Cond.instanceMethod yJx4a65c_get_915e3 ∈ lw_all := lw_all_in (List.mem_of_getElem? (i := 555) (by decide +kernel)) rfl
theorem k_556 : Cond.selects RJx4a65c yJx4a65c_get_915e3 yJx4a65c_get_915e3 ∈ lw_all := lw_all_in (List.mem_of_getElem? (i := 556) (by decide +kernel)) rfl
theorem k_557 : Cond.code yJx4a65c_get_915e3 cJx4a65c_get_915e3 2 (some (.object "java/lang/Object")) ∈ lw_all := lw_all_in (List.mem_of_getElem? (i := 557) (by decide +kernel)) rfl
theorem k_558 : Cond.methodLink RJx4a65c 118 yJ15_checkIndex_7cf53 ∈ lw_all := lw_all_in (List.mem_of_getElem? (i := 558) (by decide +kernel)) rfl
theorem k_559 : Cond.static yJ15_checkIndex_7cf53 ∈ lw_all := lw_all_in (List.mem_of_getElem? (i := 559) (by decide +kernel)) rfl
theorem k_560 : Cond.code yJ15_checkIndex_7cf53 cJ15_checkIndex_7cf53 2 (some .int) ∈ lw_all := lw_all_in (List.mem_of_getElem? (i := 560) (by decide +kernel)) rfl
theorem k_561 : Cond.methodLink RJ15 105 yJ3_checkIndex_8e157 ∈ lw_all := lw_all_in (List.mem_of_getElem? (i := 561) (by decide +kernel)) rfl
theorem k_562 : Cond.static yJ3_checkIndex_8e157 ∈ lw_all := lw_all_in (List.mem_of_getElem? (i := 562) (by decide +kernel)) rfl
theorem k_563 : Cond.code yJ3_checkIndex_8e157 cJ3_checkIndex_8e157 3 (some .int) ∈ lw_all := lw_all_in (List.mem_of_getElem? (i := 563) (by decide +kernel)) rfl
theorem k_564 : Cond.methodLink RJx4a65c 123 yJx4a65c_elementData_915e3 ∈ lw_all := lw_all_in (List.mem_of_getElem? (i := 564) (by decide +kernel)) rfl
theorem k_565 : Cond.instanceMethod yJx4a65c_elementData_915e3 ∈ lw_all := lw_all_in (List.mem_of_getElem? (i := 565) (by decide +kernel)) rfl
theorem k_566 : Cond.selects RJx4a65c yJx4a65c_elementData_915e3 yJx4a65c_elementData_915e3 ∈ lw_all := lw_all_in (List.mem_of_getElem? (i := 566) (by decide +kernel)) rfl
theorem k_567 : Cond.code yJx4a65c_elementData_915e3 cJx4a65c_elementData_915e3 2 (some (.object "java/lang/Object")) ∈ lw_all := lw_all_in (List.mem_of_getElem? (i := 567) (by decide +kernel)) rfl
theorem k_568 : Cond.methodLink RX6 51 yX7_toothCount ∈ lw_all := lw_all_in (List.mem_of_getElem? (i := 568) (by decide +kernel)) rfl
theorem k_569 : Cond.instanceMethod yX7_toothCount ∈ lw_all := lw_all_in (List.mem_of_getElem? (i := 569) (by decide +kernel)) rfl
theorem k_570 : Cond.selects RX7 yX7_toothCount yX7_toothCount ∈ lw_all := lw_all_in (List.mem_of_getElem? (i := 570) (by decide +kernel)) rfl
theorem k_571 : Cond.code yX7_toothCount cX7_toothCount 1 (some .int) ∈ lw_all := lw_all_in (List.mem_of_getElem? (i := 571) (by decide +kernel)) rfl
theorem k_572 : Cond.methodLink RX6 33 yX6_movedByRatios ∈ lw_all := lw_all_in (List.mem_of_getElem? (i := 572) (by decide +kernel)) rfl
theorem k_573 : Cond.instanceMethod yX6_movedByRatios ∈ lw_all := lw_all_in (List.mem_of_getElem? (i := 573) (by decide +kernel)) rfl
theorem k_574 : Cond.selects RX6 yX6_movedByRatios yX6_movedByRatios ∈ lw_all := lw_all_in (List.mem_of_getElem? (i := 574) (by decide +kernel)) rfl
theorem k_575 : Cond.code yX6_movedByRatios cX6_movedByRatios 7 (some .long) ∈ lw_all := lw_all_in (List.mem_of_getElem? (i := 575) (by decide +kernel)) rfl
theorem k_576 : Cond.methodLink RX6 41 yX7_movedWhen ∈ lw_all := lw_all_in (List.mem_of_getElem? (i := 576) (by decide +kernel)) rfl
theorem k_577 : Cond.instanceMethod yX7_movedWhen ∈ lw_all := lw_all_in (List.mem_of_getElem? (i := 577) (by decide +kernel)) rfl
theorem k_578 : Cond.selects RX7 yX7_movedWhen yX7_movedWhen ∈ lw_all := lw_all_in (List.mem_of_getElem? (i := 578) (by decide +kernel)) rfl
theorem k_579 : Cond.code yX7_movedWhen cX7_movedWhen 3 (some .long) ∈ lw_all := lw_all_in (List.mem_of_getElem? (i := 579) (by decide +kernel)) rfl
theorem k_581 : Cond.static yX8_wholePart ∈ lw_all := lw_all_in (List.mem_of_getElem? (i := 581) (by decide +kernel)) rfl
theorem k_582 : Cond.code yX8_wholePart cX8_wholePart 4 (some .long) ∈ lw_all := lw_all_in (List.mem_of_getElem? (i := 582) (by decide +kernel)) rfl
theorem k_583 : Cond.methodLink RX8 294 yJ9_floorDiv_f86c9 ∈ lw_all := lw_all_in (List.mem_of_getElem? (i := 583) (by decide +kernel)) rfl
theorem k_584 : Cond.static yJ9_floorDiv_f86c9 ∈ lw_all := lw_all_in (List.mem_of_getElem? (i := 584) (by decide +kernel)) rfl
theorem k_585 : Cond.code yJ9_floorDiv_f86c9 cJ9_floorDiv_f86c9 6 (some .long) ∈ lw_all := lw_all_in (List.mem_of_getElem? (i := 585) (by decide +kernel)) rfl
theorem k_586 : Cond.methodLink RL 205 yL_moved ∈ lw_all := lw_all_in (List.mem_of_getElem? (i := 586) (by decide +kernel)) rfl
theorem k_587 : Cond.static yL_moved ∈ lw_all := lw_all_in (List.mem_of_getElem? (i := 587) (by decide +kernel)) rfl
theorem k_589 : Cond.classLink RL 22 "java/lang/IndexOutOfBoundsException" ∈ lw_all := lw_all_in (List.mem_of_getElem? (i := 589) (by decide +kernel)) rfl
theorem k_590 : Cond.instantiable RJx00060 6 ∈ lw_all := lw_all_in (List.mem_of_getElem? (i := 590) (by decide +kernel)) rfl
theorem k_591 : Cond.instanceMethod yJx00060_init_a7421 ∈ lw_all := lw_all_in (List.mem_of_getElem? (i := 591) (by decide +kernel)) rfl
theorem k_592 : Cond.code yJx00060_init_a7421 cJx00060_init_a7421 2 none ∈ lw_all := lw_all_in (List.mem_of_getElem? (i := 592) (by decide +kernel)) rfl
theorem k_593 : Cond.methodLink RJx00060 7 ⟨"java/lang/IndexOutOfBoundsException", "<init>", "(Ljava/lang/String;)V"⟩ ∈ lw_all := lw_all_in (List.mem_of_getElem? (i := 593) (by decide +kernel)) rfl
theorem k_594 : Cond.instanceMethod ⟨"java/lang/IndexOutOfBoundsException", "<init>", "(Ljava/lang/String;)V"⟩ ∈ lw_all := lw_all_in (List.mem_of_getElem? (i := 594) (by decide +kernel)) rfl
theorem k_596 : Cond.methodLink "java/lang/IndexOutOfBoundsException" 7 ⟨"java/lang/RuntimeException", "<init>", "(Ljava/lang/String;)V"⟩ ∈ lw_all := lw_all_in (List.mem_of_getElem? (i := 596) (by decide +kernel)) rfl
theorem k_597 : Cond.lays RJx00060 "java/lang/Throwable" "backtrace" "Ljava/lang/Object;" ∈ lw_all := lw_all_in (List.mem_of_getElem? (i := 597) (by decide +kernel)) rfl
theorem k_598 : Cond.lays RJx00060 "java/lang/Throwable" "detailMessage" "Ljava/lang/String;" ∈ lw_all := lw_all_in (List.mem_of_getElem? (i := 598) (by decide +kernel)) rfl
theorem k_599 : Cond.lays RJx00060 "java/lang/Throwable" "cause" "Ljava/lang/Throwable;" ∈ lw_all := lw_all_in (List.mem_of_getElem? (i := 599) (by decide +kernel)) rfl
theorem k_600 : Cond.lays RJx00060 "java/lang/Throwable" "stackTrace" "[Ljava/lang/StackTraceElement;" ∈ lw_all := lw_all_in (List.mem_of_getElem? (i := 600) (by decide +kernel)) rfl
theorem k_601 : Cond.lays RJx00060 "java/lang/Throwable" "depth" "I" ∈ lw_all := lw_all_in (List.mem_of_getElem? (i := 601) (by decide +kernel)) rfl
theorem k_602 : Cond.lays RJx00060 "java/lang/Throwable" "suppressedExceptions" "Ljava/util/List;" ∈ lw_all := lw_all_in (List.mem_of_getElem? (i := 602) (by decide +kernel)) rfl
theorem k_607 : Cond.selects RJx00060 ⟨"java/lang/Throwable", "fillInStackTrace", "(I)Ljava/lang/Throwable;"⟩ ⟨"java/lang/Throwable", "fillInStackTrace", "(I)Ljava/lang/Throwable;"⟩ ∈ lw_all := lw_all_in (List.mem_of_getElem? (i := 607) (by decide +kernel)) rfl
theorem k_608 : Cond.instantiable RJ0 4 ∈ lw_all := lw_all_in (List.mem_of_getElem? (i := 608) (by decide +kernel)) rfl
theorem k_609 : Cond.laysFinal RJ0 "java/lang/String" "value" "[B" ∈ lw_all := lw_all_in (List.mem_of_getElem? (i := 609) (by decide +kernel)) rfl
theorem k_611 : Cond.laysFinal RJ0 "java/lang/String" "coder" "B" ∈ lw_all := lw_all_in (List.mem_of_getElem? (i := 611) (by decide +kernel)) rfl
theorem k_613 : Cond.methodLink RL 18 yX8_moved ∈ lw_all := lw_all_in (List.mem_of_getElem? (i := 613) (by decide +kernel)) rfl
theorem k_614 : Cond.instanceMethod yX8_moved ∈ lw_all := lw_all_in (List.mem_of_getElem? (i := 614) (by decide +kernel)) rfl
theorem k_615 : Cond.selects RX8 yX8_moved yX8_moved ∈ lw_all := lw_all_in (List.mem_of_getElem? (i := 615) (by decide +kernel)) rfl
theorem k_616 : Cond.code yX8_moved cX8_moved 2 (some .int) ∈ lw_all := lw_all_in (List.mem_of_getElem? (i := 616) (by decide +kernel)) rfl
theorem k_617 : Cond.methodLink RX8 87 yX8_requireWheel ∈ lw_all := lw_all_in (List.mem_of_getElem? (i := 617) (by decide +kernel)) rfl
theorem k_619 : Cond.instanceMethod yX8_requireWheel ∈ lw_all := lw_all_in (List.mem_of_getElem? (i := 619) (by decide +kernel)) rfl
theorem k_620 : Cond.code yX8_requireWheel cX8_requireWheel 2 none ∈ lw_all := lw_all_in (List.mem_of_getElem? (i := 620) (by decide +kernel)) rfl
theorem k_621 : Cond.classLink RX8 239 "java/lang/IndexOutOfBoundsException" ∈ lw_all := lw_all_in (List.mem_of_getElem? (i := 621) (by decide +kernel)) rfl
theorem k_622 : Cond.instantiable "java/lang/IndexOutOfBoundsException" 6 ∈ lw_all := lw_all_in (List.mem_of_getElem? (i := 622) (by decide +kernel)) rfl
theorem k_624 : Cond.selects "java/lang/IndexOutOfBoundsException" ⟨"java/lang/Throwable", "fillInStackTrace", "(I)Ljava/lang/Throwable;"⟩ ⟨"java/lang/Throwable", "fillInStackTrace", "(I)Ljava/lang/Throwable;"⟩ ∈ lw_all := lw_all_in (List.mem_of_getElem? (i := 624) (by decide +kernel)) rfl
theorem k_625 : Cond.lays "java/lang/IndexOutOfBoundsException" "java/lang/Throwable" "cause" "Ljava/lang/Throwable;" ∈ lw_all := lw_all_in (List.mem_of_getElem? (i := 625) (by decide +kernel)) rfl
theorem k_626 : Cond.lays "java/lang/IndexOutOfBoundsException" "java/lang/Throwable" "stackTrace" "[Ljava/lang/StackTraceElement;" ∈ lw_all := lw_all_in (List.mem_of_getElem? (i := 626) (by decide +kernel)) rfl
theorem k_627 : Cond.lays "java/lang/IndexOutOfBoundsException" "java/lang/Throwable" "suppressedExceptions" "Ljava/util/List;" ∈ lw_all := lw_all_in (List.mem_of_getElem? (i := 627) (by decide +kernel)) rfl
theorem k_628 : Cond.lays "java/lang/IndexOutOfBoundsException" "java/lang/Throwable" "detailMessage" "Ljava/lang/String;" ∈ lw_all := lw_all_in (List.mem_of_getElem? (i := 628) (by decide +kernel)) rfl
theorem k_629 : Cond.lays "java/lang/IndexOutOfBoundsException" "java/lang/Throwable" "backtrace" "Ljava/lang/Object;" ∈ lw_all := lw_all_in (List.mem_of_getElem? (i := 629) (by decide +kernel)) rfl
theorem k_631 : Cond.methodLink RX8 243 ⟨"java/lang/IndexOutOfBoundsException", "<init>", "(Ljava/lang/String;)V"⟩ ∈ lw_all := lw_all_in (List.mem_of_getElem? (i := 631) (by decide +kernel)) rfl
theorem k_632 : Cond.lays "java/lang/IndexOutOfBoundsException" "java/lang/Throwable" "depth" "I" ∈ lw_all := lw_all_in (List.mem_of_getElem? (i := 632) (by decide +kernel)) rfl
theorem k_634 : Cond.methodLink RX8 91 yX6_movedByRatios ∈ lw_all := lw_all_in (List.mem_of_getElem? (i := 634) (by decide +kernel)) rfl
theorem k_635 : Cond.methodLink RL 207 yL_wholeTurns ∈ lw_all := lw_all_in (List.mem_of_getElem? (i := 635) (by decide +kernel)) rfl
theorem k_636 : Cond.static yL_wholeTurns ∈ lw_all := lw_all_in (List.mem_of_getElem? (i := 636) (by decide +kernel)) rfl
theorem k_638 : Cond.methodLink RL 24 yX8_wholeTurns ∈ lw_all := lw_all_in (List.mem_of_getElem? (i := 638) (by decide +kernel)) rfl
theorem k_639 : Cond.instanceMethod yX8_wholeTurns ∈ lw_all := lw_all_in (List.mem_of_getElem? (i := 639) (by decide +kernel)) rfl
theorem k_640 : Cond.selects RX8 yX8_wholeTurns yX8_wholeTurns ∈ lw_all := lw_all_in (List.mem_of_getElem? (i := 640) (by decide +kernel)) rfl
theorem k_641 : Cond.code yX8_wholeTurns cX8_wholeTurns 2 (some .int) ∈ lw_all := lw_all_in (List.mem_of_getElem? (i := 641) (by decide +kernel)) rfl
theorem k_642 : Cond.methodLink RX8 95 yX6_turnsByRatios ∈ lw_all := lw_all_in (List.mem_of_getElem? (i := 642) (by decide +kernel)) rfl
theorem k_643 : Cond.instanceMethod yX6_turnsByRatios ∈ lw_all := lw_all_in (List.mem_of_getElem? (i := 643) (by decide +kernel)) rfl
theorem k_644 : Cond.selects RX6 yX6_turnsByRatios yX6_turnsByRatios ∈ lw_all := lw_all_in (List.mem_of_getElem? (i := 644) (by decide +kernel)) rfl
theorem k_645 : Cond.code yX6_turnsByRatios cX6_turnsByRatios 4 (some .long) ∈ lw_all := lw_all_in (List.mem_of_getElem? (i := 645) (by decide +kernel)) rfl
theorem k_647 : Cond.methodLink RL 256 yL_beatsForTurn ∈ lw_all := lw_all_in (List.mem_of_getElem? (i := 647) (by decide +kernel)) rfl
theorem k_648 : Cond.static yL_beatsForTurn ∈ lw_all := lw_all_in (List.mem_of_getElem? (i := 648) (by decide +kernel)) rfl
theorem k_650 : Cond.methodLink RL 27 yX8_beatsForTurn ∈ lw_all := lw_all_in (List.mem_of_getElem? (i := 650) (by decide +kernel)) rfl
theorem k_651 : Cond.instanceMethod yX8_beatsForTurn ∈ lw_all := lw_all_in (List.mem_of_getElem? (i := 651) (by decide +kernel)) rfl
theorem k_652 : Cond.selects RX8 yX8_beatsForTurn yX8_beatsForTurn ∈ lw_all := lw_all_in (List.mem_of_getElem? (i := 652) (by decide +kernel)) rfl
theorem k_653 : Cond.code yX8_beatsForTurn cX8_beatsForTurn 2 (some .double) ∈ lw_all := lw_all_in (List.mem_of_getElem? (i := 653) (by decide +kernel)) rfl
theorem k_654 : Cond.methodLink RX8 98 yX6_beatsOfTurn ∈ lw_all := lw_all_in (List.mem_of_getElem? (i := 654) (by decide +kernel)) rfl
theorem k_655 : Cond.instanceMethod yX6_beatsOfTurn ∈ lw_all := lw_all_in (List.mem_of_getElem? (i := 655) (by decide +kernel)) rfl
theorem k_656 : Cond.selects RX6 yX6_beatsOfTurn yX6_beatsOfTurn ∈ lw_all := lw_all_in (List.mem_of_getElem? (i := 656) (by decide +kernel)) rfl
theorem k_657 : Cond.code yX6_beatsOfTurn cX6_beatsOfTurn 5 (some .double) ∈ lw_all := lw_all_in (List.mem_of_getElem? (i := 657) (by decide +kernel)) rfl
theorem k_658 : Cond.methodLink RX6 54 yX7_leafCount ∈ lw_all := lw_all_in (List.mem_of_getElem? (i := 658) (by decide +kernel)) rfl
theorem k_659 : Cond.instanceMethod yX7_leafCount ∈ lw_all := lw_all_in (List.mem_of_getElem? (i := 659) (by decide +kernel)) rfl
theorem k_660 : Cond.selects RX7 yX7_leafCount yX7_leafCount ∈ lw_all := lw_all_in (List.mem_of_getElem? (i := 660) (by decide +kernel)) rfl
theorem k_661 : Cond.code yX7_leafCount cX7_leafCount 1 (some .int) ∈ lw_all := lw_all_in (List.mem_of_getElem? (i := 661) (by decide +kernel)) rfl
theorem k_662 : Cond.constantDouble RL 31 (13830554455654793216) ∈ lw_all := lw_all_in (List.mem_of_getElem? (i := 662) (by decide +kernel)) rfl
theorem k_663 : Cond.methodLink RL 122 yL_setBeat ∈ lw_all := lw_all_in (List.mem_of_getElem? (i := 663) (by decide +kernel)) rfl
theorem k_664 : Cond.static yL_setBeat ∈ lw_all := lw_all_in (List.mem_of_getElem? (i := 664) (by decide +kernel)) rfl
theorem k_666 : Cond.methodLink RL 39 yX8_setBeat ∈ lw_all := lw_all_in (List.mem_of_getElem? (i := 666) (by decide +kernel)) rfl
theorem k_667 : Cond.instanceMethod yX8_setBeat ∈ lw_all := lw_all_in (List.mem_of_getElem? (i := 667) (by decide +kernel)) rfl
theorem k_668 : Cond.selects RX8 yX8_setBeat yX8_setBeat ∈ lw_all := lw_all_in (List.mem_of_getElem? (i := 668) (by decide +kernel)) rfl
theorem k_669 : Cond.code yX8_setBeat cX8_setBeat 3 (some .int) ∈ lw_all := lw_all_in (List.mem_of_getElem? (i := 669) (by decide +kernel)) rfl
theorem k_671 : Cond.methodLink RX8 111 yX4_change ∈ lw_all := lw_all_in (List.mem_of_getElem? (i := 671) (by decide +kernel)) rfl
theorem k_672 : Cond.instanceMethod yX4_change ∈ lw_all := lw_all_in (List.mem_of_getElem? (i := 672) (by decide +kernel)) rfl
theorem k_673 : Cond.selects RX4 yX4_change yX4_change ∈ lw_all := lw_all_in (List.mem_of_getElem? (i := 673) (by decide +kernel)) rfl
theorem k_674 : Cond.code yX4_change cX4_change 4 (some .int) ∈ lw_all := lw_all_in (List.mem_of_getElem? (i := 674) (by decide +kernel)) rfl
theorem k_675 : Cond.methodLink RL 151 yL_pass ∈ lw_all := lw_all_in (List.mem_of_getElem? (i := 675) (by decide +kernel)) rfl
theorem k_676 : Cond.static yL_pass ∈ lw_all := lw_all_in (List.mem_of_getElem? (i := 676) (by decide +kernel)) rfl
theorem k_678 : Cond.methodLink RL 42 yX8_pass ∈ lw_all := lw_all_in (List.mem_of_getElem? (i := 678) (by decide +kernel)) rfl
theorem k_679 : Cond.instanceMethod yX8_pass ∈ lw_all := lw_all_in (List.mem_of_getElem? (i := 679) (by decide +kernel)) rfl
theorem k_680 : Cond.selects RX8 yX8_pass yX8_pass ∈ lw_all := lw_all_in (List.mem_of_getElem? (i := 680) (by decide +kernel)) rfl
theorem k_681 : Cond.code yX8_pass cX8_pass 2 (some .int) ∈ lw_all := lw_all_in (List.mem_of_getElem? (i := 681) (by decide +kernel)) rfl
theorem k_682 : Cond.methodLink RX8 102 yX8_requireBeats ∈ lw_all := lw_all_in (List.mem_of_getElem? (i := 682) (by decide +kernel)) rfl
theorem k_684 : Cond.instanceMethod yX8_requireBeats ∈ lw_all := lw_all_in (List.mem_of_getElem? (i := 684) (by decide +kernel)) rfl
theorem k_685 : Cond.code yX8_requireBeats cX8_requireBeats 2 none ∈ lw_all := lw_all_in (List.mem_of_getElem? (i := 685) (by decide +kernel)) rfl
theorem k_687 : Cond.methodLink RX8 115 yX4_letPass ∈ lw_all := lw_all_in (List.mem_of_getElem? (i := 687) (by decide +kernel)) rfl
theorem k_688 : Cond.instanceMethod yX4_letPass ∈ lw_all := lw_all_in (List.mem_of_getElem? (i := 688) (by decide +kernel)) rfl
theorem k_689 : Cond.selects RX4 yX4_letPass yX4_letPass ∈ lw_all := lw_all_in (List.mem_of_getElem? (i := 689) (by decide +kernel)) rfl
theorem k_690 : Cond.code yX4_letPass cX4_letPass 3 (some .int) ∈ lw_all := lw_all_in (List.mem_of_getElem? (i := 690) (by decide +kernel)) rfl
theorem k_691 : Cond.methodLink RX4 25 yX4_secondsOf ∈ lw_all := lw_all_in (List.mem_of_getElem? (i := 691) (by decide +kernel)) rfl
theorem k_692 : Cond.instanceMethod yX4_secondsOf ∈ lw_all := lw_all_in (List.mem_of_getElem? (i := 692) (by decide +kernel)) rfl
theorem k_693 : Cond.selects RX4 yX4_secondsOf yX4_secondsOf ∈ lw_all := lw_all_in (List.mem_of_getElem? (i := 693) (by decide +kernel)) rfl
theorem k_694 : Cond.code yX4_secondsOf cX4_secondsOf 2 (some .int) ∈ lw_all := lw_all_in (List.mem_of_getElem? (i := 694) (by decide +kernel)) rfl
theorem k_696 : Cond.methodLink RX8 119 yX8_goByMinutes ∈ lw_all := lw_all_in (List.mem_of_getElem? (i := 696) (by decide +kernel)) rfl
theorem k_698 : Cond.instanceMethod yX8_goByMinutes ∈ lw_all := lw_all_in (List.mem_of_getElem? (i := 698) (by decide +kernel)) rfl
theorem k_699 : Cond.code yX8_goByMinutes cX8_goByMinutes 7 (some .int) ∈ lw_all := lw_all_in (List.mem_of_getElem? (i := 699) (by decide +kernel)) rfl
theorem k_700 : Cond.methodLink RX8 332 yX3_secondsToFullMinute ∈ lw_all := lw_all_in (List.mem_of_getElem? (i := 700) (by decide +kernel)) rfl
theorem k_701 : Cond.instanceMethod yX3_secondsToFullMinute ∈ lw_all := lw_all_in (List.mem_of_getElem? (i := 701) (by decide +kernel)) rfl
theorem k_702 : Cond.selects RX3 yX3_secondsToFullMinute yX3_secondsToFullMinute ∈ lw_all := lw_all_in (List.mem_of_getElem? (i := 702) (by decide +kernel)) rfl
theorem k_703 : Cond.code yX3_secondsToFullMinute cX3_secondsToFullMinute 1 (some .int) ∈ lw_all := lw_all_in (List.mem_of_getElem? (i := 703) (by decide +kernel)) rfl
theorem k_704 : Cond.methodLink RX3 24 yJ9_floorMod_7cf53 ∈ lw_all := lw_all_in (List.mem_of_getElem? (i := 704) (by decide +kernel)) rfl
theorem k_705 : Cond.methodLink RX8 335 Lib.Math.min.name ∈ lw_all := lw_all_in (List.mem_of_getElem? (i := 705) (by decide +kernel)) rfl
theorem k_706 : Cond.methodLink RX8 338 Lib.Math.max.name ∈ lw_all := lw_all_in (List.mem_of_getElem? (i := 706) (by decide +kernel)) rfl
theorem k_707 : Cond.methodLink RX8 322 yX3_addSeconds ∈ lw_all := lw_all_in (List.mem_of_getElem? (i := 707) (by decide +kernel)) rfl
theorem k_708 : Cond.instanceMethod yX3_addSeconds ∈ lw_all := lw_all_in (List.mem_of_getElem? (i := 708) (by decide +kernel)) rfl
theorem k_709 : Cond.selects RX3 yX3_addSeconds yX3_addSeconds ∈ lw_all := lw_all_in (List.mem_of_getElem? (i := 709) (by decide +kernel)) rfl
theorem k_710 : Cond.code yX3_addSeconds cX3_addSeconds 2 none ∈ lw_all := lw_all_in (List.mem_of_getElem? (i := 710) (by decide +kernel)) rfl
theorem k_711 : Cond.methodLink RX8 325 yX3_isFullMinute ∈ lw_all := lw_all_in (List.mem_of_getElem? (i := 711) (by decide +kernel)) rfl
theorem k_712 : Cond.instanceMethod yX3_isFullMinute ∈ lw_all := lw_all_in (List.mem_of_getElem? (i := 712) (by decide +kernel)) rfl
theorem k_713 : Cond.selects RX3 yX3_isFullMinute yX3_isFullMinute ∈ lw_all := lw_all_in (List.mem_of_getElem? (i := 713) (by decide +kernel)) rfl
theorem k_714 : Cond.code yX3_isFullMinute cX3_isFullMinute 1 (some .boolean) ∈ lw_all := lw_all_in (List.mem_of_getElem? (i := 714) (by decide +kernel)) rfl
theorem k_715 : Cond.methodLink RX8 328 yX8_comeToFullMinute ∈ lw_all := lw_all_in (List.mem_of_getElem? (i := 715) (by decide +kernel)) rfl
theorem k_717 : Cond.instanceMethod yX8_comeToFullMinute ∈ lw_all := lw_all_in (List.mem_of_getElem? (i := 717) (by decide +kernel)) rfl
theorem k_718 : Cond.code yX8_comeToFullMinute cX8_comeToFullMinute 4 (some .int) ∈ lw_all := lw_all_in (List.mem_of_getElem? (i := 718) (by decide +kernel)) rfl
theorem k_719 : Cond.methodLink RX8 341 yX3_reachMark ∈ lw_all := lw_all_in (List.mem_of_getElem? (i := 719) (by decide +kernel)) rfl
theorem k_720 : Cond.instanceMethod yX3_reachMark ∈ lw_all := lw_all_in (List.mem_of_getElem? (i := 720) (by decide +kernel)) rfl
theorem k_721 : Cond.selects RX3 yX3_reachMark yX3_reachMark ∈ lw_all := lw_all_in (List.mem_of_getElem? (i := 721) (by decide +kernel)) rfl
theorem k_722 : Cond.code yX3_reachMark cX3_reachMark 1 (some .boolean) ∈ lw_all := lw_all_in (List.mem_of_getElem? (i := 722) (by decide +kernel)) rfl
theorem k_723 : Cond.methodLink RX8 344 yX8_strike ∈ lw_all := lw_all_in (List.mem_of_getElem? (i := 723) (by decide +kernel)) rfl
theorem k_725 : Cond.instanceMethod yX8_strike ∈ lw_all := lw_all_in (List.mem_of_getElem? (i := 725) (by decide +kernel)) rfl
theorem k_726 : Cond.code yX8_strike cX8_strike 3 (some .int) ∈ lw_all := lw_all_in (List.mem_of_getElem? (i := 726) (by decide +kernel)) rfl
theorem k_727 : Cond.methodLink RX8 348 yX0_strokesDue ∈ lw_all := lw_all_in (List.mem_of_getElem? (i := 727) (by decide +kernel)) rfl
theorem k_728 : Cond.instanceMethod yX0_strokesDue ∈ lw_all := lw_all_in (List.mem_of_getElem? (i := 728) (by decide +kernel)) rfl
theorem k_729 : Cond.selects RX0 yX0_strokesDue yX0_strokesDue ∈ lw_all := lw_all_in (List.mem_of_getElem? (i := 729) (by decide +kernel)) rfl
theorem k_730 : Cond.code yX0_strokesDue cX0_strokesDue 5 (some .int) ∈ lw_all := lw_all_in (List.mem_of_getElem? (i := 730) (by decide +kernel)) rfl
theorem k_732 : Cond.static yX8_hourOf ∈ lw_all := lw_all_in (List.mem_of_getElem? (i := 732) (by decide +kernel)) rfl
theorem k_733 : Cond.code yX8_hourOf cX8_hourOf 1 (some .int) ∈ lw_all := lw_all_in (List.mem_of_getElem? (i := 733) (by decide +kernel)) rfl
theorem k_734 : Cond.methodLink RX0 68 yX0_isSilent ∈ lw_all := lw_all_in (List.mem_of_getElem? (i := 734) (by decide +kernel)) rfl
theorem k_736 : Cond.instanceMethod yX0_isSilent ∈ lw_all := lw_all_in (List.mem_of_getElem? (i := 736) (by decide +kernel)) rfl
theorem k_737 : Cond.code yX0_isSilent cX0_isSilent 2 (some .boolean) ∈ lw_all := lw_all_in (List.mem_of_getElem? (i := 737) (by decide +kernel)) rfl
theorem k_738 : Cond.methodLink RX0 72 yX0_quarterOf ∈ lw_all := lw_all_in (List.mem_of_getElem? (i := 738) (by decide +kernel)) rfl
theorem k_739 : Cond.static yX0_quarterOf ∈ lw_all := lw_all_in (List.mem_of_getElem? (i := 739) (by decide +kernel)) rfl
theorem k_740 : Cond.code yX0_quarterOf cX0_quarterOf 1 (some .int) ∈ lw_all := lw_all_in (List.mem_of_getElem? (i := 740) (by decide +kernel)) rfl
theorem k_741 : Cond.methodLink RX0 58 yJ9_floorMod_7cf53 ∈ lw_all := lw_all_in (List.mem_of_getElem? (i := 741) (by decide +kernel)) rfl
theorem k_742 : Cond.methodLink RX0 54 yX0_tuneOrNull ∈ lw_all := lw_all_in (List.mem_of_getElem? (i := 742) (by decide +kernel)) rfl
theorem k_744 : Cond.instanceMethod yX0_tuneOrNull ∈ lw_all := lw_all_in (List.mem_of_getElem? (i := 744) (by decide +kernel)) rfl
theorem k_745 : Cond.code yX0_tuneOrNull cX0_tuneOrNull 2 (some (.object "MinsterClock$Drum")) ∈ lw_all := lw_all_in (List.mem_of_getElem? (i := 745) (by decide +kernel)) rfl
theorem k_746 : Cond.methodLink RX0 75 yX0_strokesOfHour ∈ lw_all := lw_all_in (List.mem_of_getElem? (i := 746) (by decide +kernel)) rfl
theorem k_747 : Cond.static yX0_strokesOfHour ∈ lw_all := lw_all_in (List.mem_of_getElem? (i := 747) (by decide +kernel)) rfl
theorem k_748 : Cond.code yX0_strokesOfHour cX0_strokesOfHour 1 (some .int) ∈ lw_all := lw_all_in (List.mem_of_getElem? (i := 748) (by decide +kernel)) rfl
theorem k_749 : Cond.methodLink RX0 78 yX2_pinCount ∈ lw_all := lw_all_in (List.mem_of_getElem? (i := 749) (by decide +kernel)) rfl
theorem k_750 : Cond.instanceMethod yX2_pinCount ∈ lw_all := lw_all_in (List.mem_of_getElem? (i := 750) (by decide +kernel)) rfl
theorem k_751 : Cond.selects RX2 yX2_pinCount yX2_pinCount ∈ lw_all := lw_all_in (List.mem_of_getElem? (i := 751) (by decide +kernel)) rfl
theorem k_752 : Cond.code yX2_pinCount cX2_pinCount 1 (some .int) ∈ lw_all := lw_all_in (List.mem_of_getElem? (i := 752) (by decide +kernel)) rfl
theorem k_753 : Cond.methodLink RX8 354 yX0_ring ∈ lw_all := lw_all_in (List.mem_of_getElem? (i := 753) (by decide +kernel)) rfl
theorem k_754 : Cond.instanceMethod yX0_ring ∈ lw_all := lw_all_in (List.mem_of_getElem? (i := 754) (by decide +kernel)) rfl
theorem k_755 : Cond.selects RX0 yX0_ring yX0_ring ∈ lw_all := lw_all_in (List.mem_of_getElem? (i := 755) (by decide +kernel)) rfl
theorem k_756 : Cond.code yX0_ring cX0_ring 5 none ∈ lw_all := lw_all_in (List.mem_of_getElem? (i := 756) (by decide +kernel)) rfl
theorem k_757 : Cond.methodLink RX0 81 yX2_play ∈ lw_all := lw_all_in (List.mem_of_getElem? (i := 757) (by decide +kernel)) rfl
theorem k_758 : Cond.instanceMethod yX2_play ∈ lw_all := lw_all_in (List.mem_of_getElem? (i := 758) (by decide +kernel)) rfl
theorem k_759 : Cond.selects RX2 yX2_play yX2_play ∈ lw_all := lw_all_in (List.mem_of_getElem? (i := 759) (by decide +kernel)) rfl
theorem k_760 : Cond.code yX2_play cX2_play 4 none ∈ lw_all := lw_all_in (List.mem_of_getElem? (i := 760) (by decide +kernel)) rfl
theorem k_761 : Cond.methodLink RX2 20 yX2_hasPin ∈ lw_all := lw_all_in (List.mem_of_getElem? (i := 761) (by decide +kernel)) rfl
theorem k_763 : Cond.instanceMethod yX2_hasPin ∈ lw_all := lw_all_in (List.mem_of_getElem? (i := 763) (by decide +kernel)) rfl
theorem k_764 : Cond.instantiable RX2 3 ∈ lw_all := lw_all_in (List.mem_of_getElem? (i := 764) (by decide +kernel)) rfl
theorem k_765 : Cond.code yX2_hasPin cX2_hasPin 3 (some .boolean) ∈ lw_all := lw_all_in (List.mem_of_getElem? (i := 765) (by decide +kernel)) rfl
theorem k_766 : Cond.methodLink RX8 272 yX3_greatestMark ∈ lw_all := lw_all_in (List.mem_of_getElem? (i := 766) (by decide +kernel)) rfl
theorem k_767 : Cond.instanceMethod yX3_greatestMark ∈ lw_all := lw_all_in (List.mem_of_getElem? (i := 767) (by decide +kernel)) rfl
theorem k_768 : Cond.selects RX3 yX3_greatestMark yX3_greatestMark ∈ lw_all := lw_all_in (List.mem_of_getElem? (i := 768) (by decide +kernel)) rfl
theorem k_769 : Cond.code yX3_greatestMark cX3_greatestMark 1 (some .int) ∈ lw_all := lw_all_in (List.mem_of_getElem? (i := 769) (by decide +kernel)) rfl
theorem k_770 : Cond.methodLink RX8 357 yX5_keep ∈ lw_all := lw_all_in (List.mem_of_getElem? (i := 770) (by decide +kernel)) rfl
theorem k_771 : Cond.instanceMethod yX5_keep ∈ lw_all := lw_all_in (List.mem_of_getElem? (i := 771) (by decide +kernel)) rfl
theorem k_772 : Cond.selects RX5 yX5_keep yX5_keep ∈ lw_all := lw_all_in (List.mem_of_getElem? (i := 772) (by decide +kernel)) rfl
theorem k_773 : Cond.code yX5_keep cX5_keep 3 none ∈ lw_all := lw_all_in (List.mem_of_getElem? (i := 773) (by decide +kernel)) rfl
theorem k_774 : Cond.methodLink RX5 24 yX5_slotOf ∈ lw_all := lw_all_in (List.mem_of_getElem? (i := 774) (by decide +kernel)) rfl
theorem k_776 : Cond.instanceMethod yX5_slotOf ∈ lw_all := lw_all_in (List.mem_of_getElem? (i := 776) (by decide +kernel)) rfl
theorem k_777 : Cond.code yX5_slotOf cX5_slotOf 2 (some .int) ∈ lw_all := lw_all_in (List.mem_of_getElem? (i := 777) (by decide +kernel)) rfl
theorem k_778 : Cond.methodLink RX5 41 yJ9_floorMod_7cf53 ∈ lw_all := lw_all_in (List.mem_of_getElem? (i := 778) (by decide +kernel)) rfl
theorem k_779 : Cond.methodLink RX8 351 yX3_correct ∈ lw_all := lw_all_in (List.mem_of_getElem? (i := 779) (by decide +kernel)) rfl
theorem k_780 : Cond.instanceMethod yX3_correct ∈ lw_all := lw_all_in (List.mem_of_getElem? (i := 780) (by decide +kernel)) rfl
theorem k_781 : Cond.selects RX3 yX3_correct yX3_correct ∈ lw_all := lw_all_in (List.mem_of_getElem? (i := 781) (by decide +kernel)) rfl
theorem k_782 : Cond.code yX3_correct cX3_correct 2 none ∈ lw_all := lw_all_in (List.mem_of_getElem? (i := 782) (by decide +kernel)) rfl
theorem k_783 : Cond.methodLink RX3 30 Lib.Math.min.name ∈ lw_all := lw_all_in (List.mem_of_getElem? (i := 783) (by decide +kernel)) rfl
theorem k_784 : Cond.methodLink RX3 33 Lib.Math.max.name ∈ lw_all := lw_all_in (List.mem_of_getElem? (i := 784) (by decide +kernel)) rfl
theorem k_785 : Cond.methodLink RL 124 yL_owe ∈ lw_all := lw_all_in (List.mem_of_getElem? (i := 785) (by decide +kernel)) rfl
theorem k_786 : Cond.static yL_owe ∈ lw_all := lw_all_in (List.mem_of_getElem? (i := 786) (by decide +kernel)) rfl
theorem k_788 : Cond.methodLink RL 45 yX8_owe ∈ lw_all := lw_all_in (List.mem_of_getElem? (i := 788) (by decide +kernel)) rfl
theorem k_789 : Cond.instanceMethod yX8_owe ∈ lw_all := lw_all_in (List.mem_of_getElem? (i := 789) (by decide +kernel)) rfl
theorem k_790 : Cond.selects RX8 yX8_owe yX8_owe ∈ lw_all := lw_all_in (List.mem_of_getElem? (i := 790) (by decide +kernel)) rfl
theorem k_791 : Cond.code yX8_owe cX8_owe 2 (some .int) ∈ lw_all := lw_all_in (List.mem_of_getElem? (i := 791) (by decide +kernel)) rfl
theorem k_793 : Cond.methodLink RX8 139 yX3_owedSeconds ∈ lw_all := lw_all_in (List.mem_of_getElem? (i := 793) (by decide +kernel)) rfl
theorem k_794 : Cond.instanceMethod yX3_owedSeconds ∈ lw_all := lw_all_in (List.mem_of_getElem? (i := 794) (by decide +kernel)) rfl
theorem k_795 : Cond.selects RX3 yX3_owedSeconds yX3_owedSeconds ∈ lw_all := lw_all_in (List.mem_of_getElem? (i := 795) (by decide +kernel)) rfl
theorem k_796 : Cond.code yX3_owedSeconds cX3_owedSeconds 1 (some .int) ∈ lw_all := lw_all_in (List.mem_of_getElem? (i := 796) (by decide +kernel)) rfl
theorem k_798 : Cond.methodLink RX8 144 yX3_addOwed ∈ lw_all := lw_all_in (List.mem_of_getElem? (i := 798) (by decide +kernel)) rfl
theorem k_799 : Cond.instanceMethod yX3_addOwed ∈ lw_all := lw_all_in (List.mem_of_getElem? (i := 799) (by decide +kernel)) rfl
theorem k_800 : Cond.selects RX3 yX3_addOwed yX3_addOwed ∈ lw_all := lw_all_in (List.mem_of_getElem? (i := 800) (by decide +kernel)) rfl
theorem k_801 : Cond.code yX3_addOwed cX3_addOwed 2 (some .int) ∈ lw_all := lw_all_in (List.mem_of_getElem? (i := 801) (by decide +kernel)) rfl
theorem k_802 : Cond.methodLink RL 132 yL_setBound ∈ lw_all := lw_all_in (List.mem_of_getElem? (i := 802) (by decide +kernel)) rfl
theorem k_803 : Cond.static yL_setBound ∈ lw_all := lw_all_in (List.mem_of_getElem? (i := 803) (by decide +kernel)) rfl
theorem k_805 : Cond.methodLink RL 48 yX8_setBound ∈ lw_all := lw_all_in (List.mem_of_getElem? (i := 805) (by decide +kernel)) rfl
theorem k_806 : Cond.instanceMethod yX8_setBound ∈ lw_all := lw_all_in (List.mem_of_getElem? (i := 806) (by decide +kernel)) rfl
theorem k_807 : Cond.selects RX8 yX8_setBound yX8_setBound ∈ lw_all := lw_all_in (List.mem_of_getElem? (i := 807) (by decide +kernel)) rfl
theorem k_808 : Cond.code yX8_setBound cX8_setBound 2 (some .int) ∈ lw_all := lw_all_in (List.mem_of_getElem? (i := 808) (by decide +kernel)) rfl
theorem k_810 : Cond.methodLink RX8 149 yX3_changeBound ∈ lw_all := lw_all_in (List.mem_of_getElem? (i := 810) (by decide +kernel)) rfl
theorem k_811 : Cond.instanceMethod yX3_changeBound ∈ lw_all := lw_all_in (List.mem_of_getElem? (i := 811) (by decide +kernel)) rfl
theorem k_812 : Cond.selects RX3 yX3_changeBound yX3_changeBound ∈ lw_all := lw_all_in (List.mem_of_getElem? (i := 812) (by decide +kernel)) rfl
theorem k_813 : Cond.code yX3_changeBound cX3_changeBound 3 (some .int) ∈ lw_all := lw_all_in (List.mem_of_getElem? (i := 813) (by decide +kernel)) rfl
theorem k_814 : Cond.methodLink RL 143 yL_addDrum ∈ lw_all := lw_all_in (List.mem_of_getElem? (i := 814) (by decide +kernel)) rfl
theorem k_815 : Cond.static yL_addDrum ∈ lw_all := lw_all_in (List.mem_of_getElem? (i := 815) (by decide +kernel)) rfl
theorem k_817 : Cond.methodLink RL 71 yX8_addDrum ∈ lw_all := lw_all_in (List.mem_of_getElem? (i := 817) (by decide +kernel)) rfl
theorem k_818 : Cond.instanceMethod yX8_addDrum ∈ lw_all := lw_all_in (List.mem_of_getElem? (i := 818) (by decide +kernel)) rfl
theorem k_819 : Cond.selects RX8 yX8_addDrum yX8_addDrum ∈ lw_all := lw_all_in (List.mem_of_getElem? (i := 819) (by decide +kernel)) rfl
theorem k_820 : Cond.code yX8_addDrum cX8_addDrum 1 (some .int) ∈ lw_all := lw_all_in (List.mem_of_getElem? (i := 820) (by decide +kernel)) rfl
theorem k_821 : Cond.methodLink RX8 199 yX0_drumCount ∈ lw_all := lw_all_in (List.mem_of_getElem? (i := 821) (by decide +kernel)) rfl
theorem k_822 : Cond.instanceMethod yX0_drumCount ∈ lw_all := lw_all_in (List.mem_of_getElem? (i := 822) (by decide +kernel)) rfl
theorem k_823 : Cond.selects RX0 yX0_drumCount yX0_drumCount ∈ lw_all := lw_all_in (List.mem_of_getElem? (i := 823) (by decide +kernel)) rfl
theorem k_824 : Cond.code yX0_drumCount cX0_drumCount 1 (some .int) ∈ lw_all := lw_all_in (List.mem_of_getElem? (i := 824) (by decide +kernel)) rfl
theorem k_825 : Cond.methodLink RX0 39 yJx4a65c_size_8abf5 ∈ lw_all := lw_all_in (List.mem_of_getElem? (i := 825) (by decide +kernel)) rfl
theorem k_827 : Cond.methodLink RX8 204 yX0_makeDrum ∈ lw_all := lw_all_in (List.mem_of_getElem? (i := 827) (by decide +kernel)) rfl
theorem k_828 : Cond.instanceMethod yX0_makeDrum ∈ lw_all := lw_all_in (List.mem_of_getElem? (i := 828) (by decide +kernel)) rfl
theorem k_829 : Cond.selects RX0 yX0_makeDrum yX0_makeDrum ∈ lw_all := lw_all_in (List.mem_of_getElem? (i := 829) (by decide +kernel)) rfl
theorem k_830 : Cond.code yX0_makeDrum cX0_makeDrum 2 (some .int) ∈ lw_all := lw_all_in (List.mem_of_getElem? (i := 830) (by decide +kernel)) rfl
theorem k_831 : Cond.methodLink RX0 43 yX2_init ∈ lw_all := lw_all_in (List.mem_of_getElem? (i := 831) (by decide +kernel)) rfl
theorem k_832 : Cond.instanceMethod yX2_init ∈ lw_all := lw_all_in (List.mem_of_getElem? (i := 832) (by decide +kernel)) rfl
theorem k_833 : Cond.code yX2_init cX2_init 2 none ∈ lw_all := lw_all_in (List.mem_of_getElem? (i := 833) (by decide +kernel)) rfl
theorem k_834 : Cond.methodLink RX2 1 objectInit ∈ lw_all := lw_all_in (List.mem_of_getElem? (i := 834) (by decide +kernel)) rfl
theorem k_835 : Cond.fieldLink RX2 7 "MinsterClock$Drum" "number" "I" ∈ lw_all := lw_all_in (List.mem_of_getElem? (i := 835) (by decide +kernel)) rfl
theorem k_836 : Cond.fieldLink RX2 13 "MinsterClock$Drum" "bellsOfSteps" "[I" ∈ lw_all := lw_all_in (List.mem_of_getElem? (i := 836) (by decide +kernel)) rfl
theorem k_837 : Cond.fieldLink RX2 17 "MinsterClock$Drum" "pins" "I" ∈ lw_all := lw_all_in (List.mem_of_getElem? (i := 837) (by decide +kernel)) rfl
theorem k_838 : Cond.laysFinal RX2 "MinsterClock$Drum" "number" "I" ∈ lw_all := lw_all_in (List.mem_of_getElem? (i := 838) (by decide +kernel)) rfl
theorem k_840 : Cond.laysFinal RX2 "MinsterClock$Drum" "bellsOfSteps" "[I" ∈ lw_all := lw_all_in (List.mem_of_getElem? (i := 840) (by decide +kernel)) rfl
theorem k_842 : Cond.lays RX2 "MinsterClock$Drum" "pins" "I" ∈ lw_all := lw_all_in (List.mem_of_getElem? (i := 842) (by decide +kernel)) rfl
theorem k_845 : Cond.methodLink RX0 46 yJx4a65c_add_9ea2d ∈ lw_all := lw_all_in (List.mem_of_getElem? (i := 845) (by decide +kernel)) rfl
theorem k_846 : Cond.methodLink RL 146 yL_setPin ∈ lw_all := lw_all_in (List.mem_of_getElem? (i := 846) (by decide +kernel)) rfl
theorem k_847 : Cond.static yL_setPin ∈ lw_all := lw_all_in (List.mem_of_getElem? (i := 847) (by decide +kernel)) rfl
theorem k_849 : Cond.methodLink RL 75 yX8_setPin ∈ lw_all := lw_all_in (List.mem_of_getElem? (i := 849) (by decide +kernel)) rfl
theorem k_850 : Cond.instanceMethod yX8_setPin ∈ lw_all := lw_all_in (List.mem_of_getElem? (i := 850) (by decide +kernel)) rfl
theorem k_851 : Cond.selects RX8 yX8_setPin yX8_setPin ∈ lw_all := lw_all_in (List.mem_of_getElem? (i := 851) (by decide +kernel)) rfl
theorem k_852 : Cond.code yX8_setPin cX8_setPin 6 (some .boolean) ∈ lw_all := lw_all_in (List.mem_of_getElem? (i := 852) (by decide +kernel)) rfl
theorem k_853 : Cond.methodLink RX8 207 yX8_requireDrum ∈ lw_all := lw_all_in (List.mem_of_getElem? (i := 853) (by decide +kernel)) rfl
theorem k_855 : Cond.instanceMethod yX8_requireDrum ∈ lw_all := lw_all_in (List.mem_of_getElem? (i := 855) (by decide +kernel)) rfl
theorem k_856 : Cond.code yX8_requireDrum cX8_requireDrum 3 (some (.object "MinsterClock$Drum")) ∈ lw_all := lw_all_in (List.mem_of_getElem? (i := 856) (by decide +kernel)) rfl
theorem k_857 : Cond.methodLink RX8 306 yX0_drumOrNull ∈ lw_all := lw_all_in (List.mem_of_getElem? (i := 857) (by decide +kernel)) rfl
theorem k_858 : Cond.instanceMethod yX0_drumOrNull ∈ lw_all := lw_all_in (List.mem_of_getElem? (i := 858) (by decide +kernel)) rfl
theorem k_859 : Cond.selects RX0 yX0_drumOrNull yX0_drumOrNull ∈ lw_all := lw_all_in (List.mem_of_getElem? (i := 859) (by decide +kernel)) rfl
theorem k_860 : Cond.code yX0_drumOrNull cX0_drumOrNull 2 (some (.object "MinsterClock$Drum")) ∈ lw_all := lw_all_in (List.mem_of_getElem? (i := 860) (by decide +kernel)) rfl
theorem k_861 : Cond.methodLink RX0 50 yJx4a65c_get_915e3 ∈ lw_all := lw_all_in (List.mem_of_getElem? (i := 861) (by decide +kernel)) rfl
theorem k_864 : Cond.methodLink RX8 215 yX2_changePin ∈ lw_all := lw_all_in (List.mem_of_getElem? (i := 864) (by decide +kernel)) rfl
theorem k_865 : Cond.instanceMethod yX2_changePin ∈ lw_all := lw_all_in (List.mem_of_getElem? (i := 865) (by decide +kernel)) rfl
theorem k_866 : Cond.selects RX2 yX2_changePin yX2_changePin ∈ lw_all := lw_all_in (List.mem_of_getElem? (i := 866) (by decide +kernel)) rfl
theorem k_867 : Cond.code yX2_changePin cX2_changePin 5 (some .boolean) ∈ lw_all := lw_all_in (List.mem_of_getElem? (i := 867) (by decide +kernel)) rfl
theorem k_868 : Cond.methodLink RL 191 yL_pins ∈ lw_all := lw_all_in (List.mem_of_getElem? (i := 868) (by decide +kernel)) rfl
theorem k_869 : Cond.static yL_pins ∈ lw_all := lw_all_in (List.mem_of_getElem? (i := 869) (by decide +kernel)) rfl
theorem k_871 : Cond.methodLink RL 79 yX8_pins ∈ lw_all := lw_all_in (List.mem_of_getElem? (i := 871) (by decide +kernel)) rfl
theorem k_872 : Cond.instanceMethod yX8_pins ∈ lw_all := lw_all_in (List.mem_of_getElem? (i := 872) (by decide +kernel)) rfl
theorem k_873 : Cond.selects RX8 yX8_pins yX8_pins ∈ lw_all := lw_all_in (List.mem_of_getElem? (i := 873) (by decide +kernel)) rfl
theorem k_874 : Cond.code yX8_pins cX8_pins 2 (some .int) ∈ lw_all := lw_all_in (List.mem_of_getElem? (i := 874) (by decide +kernel)) rfl
theorem k_875 : Cond.methodLink RX8 219 yX2_pinCount ∈ lw_all := lw_all_in (List.mem_of_getElem? (i := 875) (by decide +kernel)) rfl
theorem k_876 : Cond.methodLink RL 209 yL_bellAt ∈ lw_all := lw_all_in (List.mem_of_getElem? (i := 876) (by decide +kernel)) rfl
theorem k_877 : Cond.static yL_bellAt ∈ lw_all := lw_all_in (List.mem_of_getElem? (i := 877) (by decide +kernel)) rfl
theorem k_879 : Cond.classLink RL 85 "java/util/NoSuchElementException" ∈ lw_all := lw_all_in (List.mem_of_getElem? (i := 879) (by decide +kernel)) rfl
theorem k_880 : Cond.methodLink RL 82 yX8_bellAt ∈ lw_all := lw_all_in (List.mem_of_getElem? (i := 880) (by decide +kernel)) rfl
theorem k_881 : Cond.instanceMethod yX8_bellAt ∈ lw_all := lw_all_in (List.mem_of_getElem? (i := 881) (by decide +kernel)) rfl
theorem k_882 : Cond.selects RX8 yX8_bellAt yX8_bellAt ∈ lw_all := lw_all_in (List.mem_of_getElem? (i := 882) (by decide +kernel)) rfl
theorem k_883 : Cond.code yX8_bellAt cX8_bellAt 4 (some .int) ∈ lw_all := lw_all_in (List.mem_of_getElem? (i := 883) (by decide +kernel)) rfl
theorem k_884 : Cond.classLink RX8 222 "java/util/NoSuchElementException" ∈ lw_all := lw_all_in (List.mem_of_getElem? (i := 884) (by decide +kernel)) rfl
theorem k_885 : Cond.instantiable "java/util/NoSuchElementException" 6 ∈ lw_all := lw_all_in (List.mem_of_getElem? (i := 885) (by decide +kernel)) rfl
theorem k_887 : Cond.selects "java/util/NoSuchElementException" ⟨"java/lang/Throwable", "fillInStackTrace", "(I)Ljava/lang/Throwable;"⟩ ⟨"java/lang/Throwable", "fillInStackTrace", "(I)Ljava/lang/Throwable;"⟩ ∈ lw_all := lw_all_in (List.mem_of_getElem? (i := 887) (by decide +kernel)) rfl
theorem k_888 : Cond.lays "java/util/NoSuchElementException" "java/lang/Throwable" "cause" "Ljava/lang/Throwable;" ∈ lw_all := lw_all_in (List.mem_of_getElem? (i := 888) (by decide +kernel)) rfl
theorem k_889 : Cond.lays "java/util/NoSuchElementException" "java/lang/Throwable" "stackTrace" "[Ljava/lang/StackTraceElement;" ∈ lw_all := lw_all_in (List.mem_of_getElem? (i := 889) (by decide +kernel)) rfl
theorem k_890 : Cond.lays "java/util/NoSuchElementException" "java/lang/Throwable" "suppressedExceptions" "Ljava/util/List;" ∈ lw_all := lw_all_in (List.mem_of_getElem? (i := 890) (by decide +kernel)) rfl
theorem k_891 : Cond.lays "java/util/NoSuchElementException" "java/lang/Throwable" "detailMessage" "Ljava/lang/String;" ∈ lw_all := lw_all_in (List.mem_of_getElem? (i := 891) (by decide +kernel)) rfl
theorem k_892 : Cond.lays "java/util/NoSuchElementException" "java/lang/Throwable" "backtrace" "Ljava/lang/Object;" ∈ lw_all := lw_all_in (List.mem_of_getElem? (i := 892) (by decide +kernel)) rfl
theorem k_894 : Cond.methodLink RX8 226 ⟨"java/util/NoSuchElementException", "<init>", "(Ljava/lang/String;)V"⟩ ∈ lw_all := lw_all_in (List.mem_of_getElem? (i := 894) (by decide +kernel)) rfl
theorem k_895 : Cond.instanceMethod ⟨"java/util/NoSuchElementException", "<init>", "(Ljava/lang/String;)V"⟩ ∈ lw_all := lw_all_in (List.mem_of_getElem? (i := 895) (by decide +kernel)) rfl
theorem k_897 : Cond.methodLink "java/util/NoSuchElementException" 13 ⟨"java/lang/RuntimeException", "<init>", "(Ljava/lang/String;)V"⟩ ∈ lw_all := lw_all_in (List.mem_of_getElem? (i := 897) (by decide +kernel)) rfl
theorem k_898 : Cond.lays "java/util/NoSuchElementException" "java/lang/Throwable" "depth" "I" ∈ lw_all := lw_all_in (List.mem_of_getElem? (i := 898) (by decide +kernel)) rfl
theorem k_900 : Cond.methodLink RX8 227 yX2_bellOfPin ∈ lw_all := lw_all_in (List.mem_of_getElem? (i := 900) (by decide +kernel)) rfl
theorem k_901 : Cond.instanceMethod yX2_bellOfPin ∈ lw_all := lw_all_in (List.mem_of_getElem? (i := 901) (by decide +kernel)) rfl
theorem k_902 : Cond.selects RX2 yX2_bellOfPin yX2_bellOfPin ∈ lw_all := lw_all_in (List.mem_of_getElem? (i := 902) (by decide +kernel)) rfl
theorem k_903 : Cond.code yX2_bellOfPin cX2_bellOfPin 5 (some .int) ∈ lw_all := lw_all_in (List.mem_of_getElem? (i := 903) (by decide +kernel)) rfl
theorem k_904 : Cond.methodLink RL 149 yL_setTune ∈ lw_all := lw_all_in (List.mem_of_getElem? (i := 904) (by decide +kernel)) rfl
theorem k_905 : Cond.static yL_setTune ∈ lw_all := lw_all_in (List.mem_of_getElem? (i := 905) (by decide +kernel)) rfl
theorem k_907 : Cond.methodLink RL 87 yX8_setTune ∈ lw_all := lw_all_in (List.mem_of_getElem? (i := 907) (by decide +kernel)) rfl
theorem k_908 : Cond.instanceMethod yX8_setTune ∈ lw_all := lw_all_in (List.mem_of_getElem? (i := 908) (by decide +kernel)) rfl
theorem k_909 : Cond.selects RX8 yX8_setTune yX8_setTune ∈ lw_all := lw_all_in (List.mem_of_getElem? (i := 909) (by decide +kernel)) rfl
theorem k_910 : Cond.code yX8_setTune cX8_setTune 4 (some .int) ∈ lw_all := lw_all_in (List.mem_of_getElem? (i := 910) (by decide +kernel)) rfl
theorem k_911 : Cond.methodLink RX8 187 yX8_isHour ∈ lw_all := lw_all_in (List.mem_of_getElem? (i := 911) (by decide +kernel)) rfl
theorem k_912 : Cond.static yX8_isHour ∈ lw_all := lw_all_in (List.mem_of_getElem? (i := 912) (by decide +kernel)) rfl
theorem k_913 : Cond.code yX8_isHour cX8_isHour 1 (some .boolean) ∈ lw_all := lw_all_in (List.mem_of_getElem? (i := 913) (by decide +kernel)) rfl
theorem k_915 : Cond.methodLink RX8 232 yX0_changeTune ∈ lw_all := lw_all_in (List.mem_of_getElem? (i := 915) (by decide +kernel)) rfl
theorem k_916 : Cond.instanceMethod yX0_changeTune ∈ lw_all := lw_all_in (List.mem_of_getElem? (i := 916) (by decide +kernel)) rfl
theorem k_917 : Cond.selects RX0 yX0_changeTune yX0_changeTune ∈ lw_all := lw_all_in (List.mem_of_getElem? (i := 917) (by decide +kernel)) rfl
theorem k_918 : Cond.code yX0_changeTune cX0_changeTune 4 (some (.object "MinsterClock$Drum")) ∈ lw_all := lw_all_in (List.mem_of_getElem? (i := 918) (by decide +kernel)) rfl
theorem k_919 : Cond.methodLink RX8 236 yX2_ownNumber ∈ lw_all := lw_all_in (List.mem_of_getElem? (i := 919) (by decide +kernel)) rfl
theorem k_920 : Cond.instanceMethod yX2_ownNumber ∈ lw_all := lw_all_in (List.mem_of_getElem? (i := 920) (by decide +kernel)) rfl
theorem k_921 : Cond.selects RX2 yX2_ownNumber yX2_ownNumber ∈ lw_all := lw_all_in (List.mem_of_getElem? (i := 921) (by decide +kernel)) rfl
theorem k_922 : Cond.code yX2_ownNumber cX2_ownNumber 1 (some .int) ∈ lw_all := lw_all_in (List.mem_of_getElem? (i := 922) (by decide +kernel)) rfl
theorem k_923 : Cond.methodLink RL 203 yL_strokes ∈ lw_all := lw_all_in (List.mem_of_getElem? (i := 923) (by decide +kernel)) rfl
theorem k_924 : Cond.static yL_strokes ∈ lw_all := lw_all_in (List.mem_of_getElem? (i := 924) (by decide +kernel)) rfl
theorem k_926 : Cond.methodLink RL 90 yX8_strokes ∈ lw_all := lw_all_in (List.mem_of_getElem? (i := 926) (by decide +kernel)) rfl
theorem k_927 : Cond.instanceMethod yX8_strokes ∈ lw_all := lw_all_in (List.mem_of_getElem? (i := 927) (by decide +kernel)) rfl
theorem k_928 : Cond.selects RX8 yX8_strokes yX8_strokes ∈ lw_all := lw_all_in (List.mem_of_getElem? (i := 928) (by decide +kernel)) rfl
theorem k_929 : Cond.code yX8_strokes cX8_strokes 2 (some .int) ∈ lw_all := lw_all_in (List.mem_of_getElem? (i := 929) (by decide +kernel)) rfl
theorem k_931 : Cond.methodLink RX8 244 yX0_strokesOfBell ∈ lw_all := lw_all_in (List.mem_of_getElem? (i := 931) (by decide +kernel)) rfl
theorem k_932 : Cond.instanceMethod yX0_strokesOfBell ∈ lw_all := lw_all_in (List.mem_of_getElem? (i := 932) (by decide +kernel)) rfl
theorem k_933 : Cond.selects RX0 yX0_strokesOfBell yX0_strokesOfBell ∈ lw_all := lw_all_in (List.mem_of_getElem? (i := 933) (by decide +kernel)) rfl
theorem k_934 : Cond.code yX0_strokesOfBell cX0_strokesOfBell 2 (some .int) ∈ lw_all := lw_all_in (List.mem_of_getElem? (i := 934) (by decide +kernel)) rfl
theorem k_935 : Cond.methodLink RL 201 yL_strokesAhead ∈ lw_all := lw_all_in (List.mem_of_getElem? (i := 935) (by decide +kernel)) rfl
theorem k_936 : Cond.static yL_strokesAhead ∈ lw_all := lw_all_in (List.mem_of_getElem? (i := 936) (by decide +kernel)) rfl
theorem k_938 : Cond.methodLink RL 99 yX8_strokesAhead ∈ lw_all := lw_all_in (List.mem_of_getElem? (i := 938) (by decide +kernel)) rfl
theorem k_939 : Cond.instanceMethod yX8_strokesAhead ∈ lw_all := lw_all_in (List.mem_of_getElem? (i := 939) (by decide +kernel)) rfl
theorem k_940 : Cond.selects RX8 yX8_strokesAhead yX8_strokesAhead ∈ lw_all := lw_all_in (List.mem_of_getElem? (i := 940) (by decide +kernel)) rfl
theorem k_941 : Cond.code yX8_strokesAhead cX8_strokesAhead 2 (some .int) ∈ lw_all := lw_all_in (List.mem_of_getElem? (i := 941) (by decide +kernel)) rfl
theorem k_942 : Cond.methodLink RX8 266 yX8_countByMinutes ∈ lw_all := lw_all_in (List.mem_of_getElem? (i := 942) (by decide +kernel)) rfl
theorem k_944 : Cond.instanceMethod yX8_countByMinutes ∈ lw_all := lw_all_in (List.mem_of_getElem? (i := 944) (by decide +kernel)) rfl
theorem k_945 : Cond.code yX8_countByMinutes cX8_countByMinutes 2 (some .int) ∈ lw_all := lw_all_in (List.mem_of_getElem? (i := 945) (by decide +kernel)) rfl
theorem k_946 : Cond.methodLink RX8 312 yX3_copyFrom ∈ lw_all := lw_all_in (List.mem_of_getElem? (i := 946) (by decide +kernel)) rfl
theorem k_947 : Cond.instanceMethod yX3_copyFrom ∈ lw_all := lw_all_in (List.mem_of_getElem? (i := 947) (by decide +kernel)) rfl
theorem k_948 : Cond.selects RX3 yX3_copyFrom yX3_copyFrom ∈ lw_all := lw_all_in (List.mem_of_getElem? (i := 948) (by decide +kernel)) rfl
theorem k_949 : Cond.code yX3_copyFrom cX3_copyFrom 2 none ∈ lw_all := lw_all_in (List.mem_of_getElem? (i := 949) (by decide +kernel)) rfl
theorem k_950 : Cond.methodLink RX8 316 yX4_secondsOf ∈ lw_all := lw_all_in (List.mem_of_getElem? (i := 950) (by decide +kernel)) rfl
theorem k_951 : Cond.methodLink RL 193 yL_struckShare ∈ lw_all := lw_all_in (List.mem_of_getElem? (i := 951) (by decide +kernel)) rfl
theorem k_952 : Cond.static yL_struckShare ∈ lw_all := lw_all_in (List.mem_of_getElem? (i := 952) (by decide +kernel)) rfl
theorem k_954 : Cond.classLink RL 109 "java/lang/ArithmeticException" ∈ lw_all := lw_all_in (List.mem_of_getElem? (i := 954) (by decide +kernel)) rfl
theorem k_955 : Cond.instantiable "java/lang/ArithmeticException" 6 ∈ lw_all := lw_all_in (List.mem_of_getElem? (i := 955) (by decide +kernel)) rfl
theorem k_956 : Cond.instanceMethod ⟨"java/lang/ArithmeticException", "<init>", "(Ljava/lang/String;)V"⟩ ∈ lw_all := lw_all_in (List.mem_of_getElem? (i := 956) (by decide +kernel)) rfl
theorem k_958 : Cond.methodLink "java/lang/ArithmeticException" 7 ⟨"java/lang/RuntimeException", "<init>", "(Ljava/lang/String;)V"⟩ ∈ lw_all := lw_all_in (List.mem_of_getElem? (i := 958) (by decide +kernel)) rfl
theorem k_959 : Cond.lays "java/lang/ArithmeticException" "java/lang/Throwable" "backtrace" "Ljava/lang/Object;" ∈ lw_all := lw_all_in (List.mem_of_getElem? (i := 959) (by decide +kernel)) rfl
theorem k_960 : Cond.lays "java/lang/ArithmeticException" "java/lang/Throwable" "detailMessage" "Ljava/lang/String;" ∈ lw_all := lw_all_in (List.mem_of_getElem? (i := 960) (by decide +kernel)) rfl
theorem k_961 : Cond.lays "java/lang/ArithmeticException" "java/lang/Throwable" "cause" "Ljava/lang/Throwable;" ∈ lw_all := lw_all_in (List.mem_of_getElem? (i := 961) (by decide +kernel)) rfl
theorem k_962 : Cond.lays "java/lang/ArithmeticException" "java/lang/Throwable" "stackTrace" "[Ljava/lang/StackTraceElement;" ∈ lw_all := lw_all_in (List.mem_of_getElem? (i := 962) (by decide +kernel)) rfl
theorem k_963 : Cond.lays "java/lang/ArithmeticException" "java/lang/Throwable" "depth" "I" ∈ lw_all := lw_all_in (List.mem_of_getElem? (i := 963) (by decide +kernel)) rfl
theorem k_964 : Cond.lays "java/lang/ArithmeticException" "java/lang/Throwable" "suppressedExceptions" "Ljava/util/List;" ∈ lw_all := lw_all_in (List.mem_of_getElem? (i := 964) (by decide +kernel)) rfl
theorem k_967 : Cond.selects "java/lang/ArithmeticException" ⟨"java/lang/Throwable", "fillInStackTrace", "(I)Ljava/lang/Throwable;"⟩ ⟨"java/lang/Throwable", "fillInStackTrace", "(I)Ljava/lang/Throwable;"⟩ ∈ lw_all := lw_all_in (List.mem_of_getElem? (i := 967) (by decide +kernel)) rfl
theorem k_968 : Cond.methodLink RL 105 yX8_struckShare ∈ lw_all := lw_all_in (List.mem_of_getElem? (i := 968) (by decide +kernel)) rfl
theorem k_969 : Cond.instanceMethod yX8_struckShare ∈ lw_all := lw_all_in (List.mem_of_getElem? (i := 969) (by decide +kernel)) rfl
theorem k_970 : Cond.selects RX8 yX8_struckShare yX8_struckShare ∈ lw_all := lw_all_in (List.mem_of_getElem? (i := 970) (by decide +kernel)) rfl
theorem k_971 : Cond.code yX8_struckShare cX8_struckShare 2 (some .float) ∈ lw_all := lw_all_in (List.mem_of_getElem? (i := 971) (by decide +kernel)) rfl
theorem k_972 : Cond.classLink RX8 275 "java/lang/ArithmeticException" ∈ lw_all := lw_all_in (List.mem_of_getElem? (i := 972) (by decide +kernel)) rfl
theorem k_974 : Cond.methodLink RX8 279 ⟨"java/lang/ArithmeticException", "<init>", "(Ljava/lang/String;)V"⟩ ∈ lw_all := lw_all_in (List.mem_of_getElem? (i := 974) (by decide +kernel)) rfl
theorem k_976 : Cond.methodLink RL 272 yL_acts ∈ lw_all := lw_all_in (List.mem_of_getElem? (i := 976) (by decide +kernel)) rfl
theorem k_977 : Cond.static yL_acts ∈ lw_all := lw_all_in (List.mem_of_getElem? (i := 977) (by decide +kernel)) rfl
theorem k_978 : Cond.code yL_acts cL_acts 7 (some .int) ∈ lw_all := lw_all_in (List.mem_of_getElem? (i := 978) (by decide +kernel)) rfl
theorem k_979 : Cond.methodLink RL 127 yJ9_abs_0f7a4 ∈ lw_all := lw_all_in (List.mem_of_getElem? (i := 979) (by decide +kernel)) rfl
theorem k_980 : Cond.static yJ9_abs_0f7a4 ∈ lw_all := lw_all_in (List.mem_of_getElem? (i := 980) (by decide +kernel)) rfl
theorem k_981 : Cond.code yJ9_abs_0f7a4 cJ9_abs_0f7a4 1 (some .int) ∈ lw_all := lw_all_in (List.mem_of_getElem? (i := 981) (by decide +kernel)) rfl
theorem k_982 : Cond.methodLink RL 134 yL_setDate ∈ lw_all := lw_all_in (List.mem_of_getElem? (i := 982) (by decide +kernel)) rfl
theorem k_983 : Cond.static yL_setDate ∈ lw_all := lw_all_in (List.mem_of_getElem? (i := 983) (by decide +kernel)) rfl
theorem k_985 : Cond.methodLink RL 51 yX8_setDate ∈ lw_all := lw_all_in (List.mem_of_getElem? (i := 985) (by decide +kernel)) rfl
theorem k_986 : Cond.instanceMethod yX8_setDate ∈ lw_all := lw_all_in (List.mem_of_getElem? (i := 986) (by decide +kernel)) rfl
theorem k_987 : Cond.selects RX8 yX8_setDate yX8_setDate ∈ lw_all := lw_all_in (List.mem_of_getElem? (i := 987) (by decide +kernel)) rfl
theorem k_988 : Cond.code yX8_setDate cX8_setDate 6 (some .int) ∈ lw_all := lw_all_in (List.mem_of_getElem? (i := 988) (by decide +kernel)) rfl
theorem k_989 : Cond.methodLink RX8 152 yX8_requireDate ∈ lw_all := lw_all_in (List.mem_of_getElem? (i := 989) (by decide +kernel)) rfl
theorem k_991 : Cond.instanceMethod yX8_requireDate ∈ lw_all := lw_all_in (List.mem_of_getElem? (i := 991) (by decide +kernel)) rfl
theorem k_992 : Cond.code yX8_requireDate cX8_requireDate 4 none ∈ lw_all := lw_all_in (List.mem_of_getElem? (i := 992) (by decide +kernel)) rfl
theorem k_993 : Cond.methodLink RX8 301 yX1_isDate ∈ lw_all := lw_all_in (List.mem_of_getElem? (i := 993) (by decide +kernel)) rfl
theorem k_994 : Cond.static yX1_isDate ∈ lw_all := lw_all_in (List.mem_of_getElem? (i := 994) (by decide +kernel)) rfl
theorem k_995 : Cond.code yX1_isDate cX1_isDate 3 (some .boolean) ∈ lw_all := lw_all_in (List.mem_of_getElem? (i := 995) (by decide +kernel)) rfl
theorem k_996 : Cond.methodLink RX1 15 yX1_daysOfMonth ∈ lw_all := lw_all_in (List.mem_of_getElem? (i := 996) (by decide +kernel)) rfl
theorem k_997 : Cond.static yX1_daysOfMonth ∈ lw_all := lw_all_in (List.mem_of_getElem? (i := 997) (by decide +kernel)) rfl
theorem k_998 : Cond.code yX1_daysOfMonth cX1_daysOfMonth 2 (some .int) ∈ lw_all := lw_all_in (List.mem_of_getElem? (i := 998) (by decide +kernel)) rfl
theorem k_999 : Cond.fieldLink RX1 66 "MinsterClock$Dates" "DAYS_OF_MONTHS" "[I" ∈ lw_all := lw_all_in (List.mem_of_getElem? (i := 999) (by decide +kernel)) rfl
theorem k_1003 : Cond.methodLink RL 137 yL_setSilence ∈ lw_all := lw_all_in (List.mem_of_getElem? (i := 1003) (by decide +kernel)) rfl
theorem k_1004 : Cond.static yL_setSilence ∈ lw_all := lw_all_in (List.mem_of_getElem? (i := 1004) (by decide +kernel)) rfl
theorem k_1006 : Cond.methodLink RL 68 yX8_setSilence ∈ lw_all := lw_all_in (List.mem_of_getElem? (i := 1006) (by decide +kernel)) rfl
theorem k_1007 : Cond.instanceMethod yX8_setSilence ∈ lw_all := lw_all_in (List.mem_of_getElem? (i := 1007) (by decide +kernel)) rfl
theorem k_1008 : Cond.selects RX8 yX8_setSilence yX8_setSilence ∈ lw_all := lw_all_in (List.mem_of_getElem? (i := 1008) (by decide +kernel)) rfl
theorem k_1009 : Cond.code yX8_setSilence cX8_setSilence 3 (some .int) ∈ lw_all := lw_all_in (List.mem_of_getElem? (i := 1009) (by decide +kernel)) rfl
theorem k_1011 : Cond.methodLink RX8 192 yX0_changeSilence ∈ lw_all := lw_all_in (List.mem_of_getElem? (i := 1011) (by decide +kernel)) rfl
theorem k_1012 : Cond.instanceMethod yX0_changeSilence ∈ lw_all := lw_all_in (List.mem_of_getElem? (i := 1012) (by decide +kernel)) rfl
theorem k_1013 : Cond.selects RX0 yX0_changeSilence yX0_changeSilence ∈ lw_all := lw_all_in (List.mem_of_getElem? (i := 1013) (by decide +kernel)) rfl
theorem k_1014 : Cond.code yX0_changeSilence cX0_changeSilence 3 (some .int) ∈ lw_all := lw_all_in (List.mem_of_getElem? (i := 1014) (by decide +kernel)) rfl
theorem k_1015 : Cond.methodLink RL 139 yX8_setQuarters ∈ lw_all := lw_all_in (List.mem_of_getElem? (i := 1015) (by decide +kernel)) rfl
theorem k_1016 : Cond.instanceMethod yX8_setQuarters ∈ lw_all := lw_all_in (List.mem_of_getElem? (i := 1016) (by decide +kernel)) rfl
theorem k_1017 : Cond.selects RX8 yX8_setQuarters yX8_setQuarters ∈ lw_all := lw_all_in (List.mem_of_getElem? (i := 1017) (by decide +kernel)) rfl
theorem k_1018 : Cond.code yX8_setQuarters cX8_setQuarters 2 (some .boolean) ∈ lw_all := lw_all_in (List.mem_of_getElem? (i := 1018) (by decide +kernel)) rfl
theorem k_1019 : Cond.methodLink RX8 195 yX0_changeQuarters ∈ lw_all := lw_all_in (List.mem_of_getElem? (i := 1019) (by decide +kernel)) rfl
theorem k_1020 : Cond.instanceMethod yX0_changeQuarters ∈ lw_all := lw_all_in (List.mem_of_getElem? (i := 1020) (by decide +kernel)) rfl
theorem k_1021 : Cond.selects RX0 yX0_changeQuarters yX0_changeQuarters ∈ lw_all := lw_all_in (List.mem_of_getElem? (i := 1021) (by decide +kernel)) rfl
theorem k_1022 : Cond.code yX0_changeQuarters cX0_changeQuarters 3 (some .boolean) ∈ lw_all := lw_all_in (List.mem_of_getElem? (i := 1022) (by decide +kernel)) rfl
theorem k_1023 : Cond.methodLink RL 268 yL_told ∈ lw_all := lw_all_in (List.mem_of_getElem? (i := 1023) (by decide +kernel)) rfl
theorem k_1024 : Cond.static yL_told ∈ lw_all := lw_all_in (List.mem_of_getElem? (i := 1024) (by decide +kernel)) rfl
theorem k_1025 : Cond.code yL_told cL_told 3 (some (.object "java/lang/String")) ∈ lw_all := lw_all_in (List.mem_of_getElem? (i := 1025) (by decide +kernel)) rfl
theorem k_1026 : Cond.classLink RL 153 RJ4 ∈ lw_all := lw_all_in (List.mem_of_getElem? (i := 1026) (by decide +kernel)) rfl
theorem k_1027 : Cond.instantiable RJ4 4 ∈ lw_all := lw_all_in (List.mem_of_getElem? (i := 1027) (by decide +kernel)) rfl
theorem k_1028 : Cond.methodLink RL 155 yJ4_init_da8c8 ∈ lw_all := lw_all_in (List.mem_of_getElem? (i := 1028) (by decide +kernel)) rfl
theorem k_1029 : Cond.instanceMethod yJ4_init_da8c8 ∈ lw_all := lw_all_in (List.mem_of_getElem? (i := 1029) (by decide +kernel)) rfl
theorem k_1030 : Cond.code yJ4_init_da8c8 cJ4_init_da8c8 1 none ∈ lw_all := lw_all_in (List.mem_of_getElem? (i := 1030) (by decide +kernel)) rfl
theorem k_1031 : Cond.methodLink RJ4 1 yJ5_init_d00df ∈ lw_all := lw_all_in (List.mem_of_getElem? (i := 1031) (by decide +kernel)) rfl
theorem k_1032 : Cond.instanceMethod yJ5_init_d00df ∈ lw_all := lw_all_in (List.mem_of_getElem? (i := 1032) (by decide +kernel)) rfl
theorem k_1033 : Cond.code yJ5_init_d00df cJ5_init_d00df 2 none ∈ lw_all := lw_all_in (List.mem_of_getElem? (i := 1033) (by decide +kernel)) rfl
theorem k_1034 : Cond.methodLink RJ5 3 objectInit ∈ lw_all := lw_all_in (List.mem_of_getElem? (i := 1034) (by decide +kernel)) rfl
theorem k_1035 : Cond.fieldLink RJ5 18 "java/lang/String" "COMPACT_STRINGS" "Z" ∈ lw_all := lw_all_in (List.mem_of_getElem? (i := 1035) (by decide +kernel)) rfl
theorem k_1037 : Cond.methodLink RJ5 26 yJ2_newBytesFor_77867 ∈ lw_all := lw_all_in (List.mem_of_getElem? (i := 1037) (by decide +kernel)) rfl
theorem k_1038 : Cond.static yJ2_newBytesFor_77867 ∈ lw_all := lw_all_in (List.mem_of_getElem? (i := 1038) (by decide +kernel)) rfl
theorem k_1039 : Cond.code yJ2_newBytesFor_77867 cJ2_newBytesFor_77867 1 (some (.array .byte)) ∈ lw_all := lw_all_in (List.mem_of_getElem? (i := 1039) (by decide +kernel)) rfl
theorem k_1040 : Cond.methodLink RJ2 11 yJ2_newBytesLength_0f7a4 ∈ lw_all := lw_all_in (List.mem_of_getElem? (i := 1040) (by decide +kernel)) rfl
theorem k_1041 : Cond.static yJ2_newBytesLength_0f7a4 ∈ lw_all := lw_all_in (List.mem_of_getElem? (i := 1041) (by decide +kernel)) rfl
theorem k_1042 : Cond.code yJ2_newBytesLength_0f7a4 cJ2_newBytesLength_0f7a4 1 (some .int) ∈ lw_all := lw_all_in (List.mem_of_getElem? (i := 1042) (by decide +kernel)) rfl
theorem k_1043 : Cond.constant RJ2 20 (1073741823) ∈ lw_all := lw_all_in (List.mem_of_getElem? (i := 1043) (by decide +kernel)) rfl
theorem k_1044 : Cond.fieldLink RJ5 15 "java/lang/AbstractStringBuilder" "value" "[B" ∈ lw_all := lw_all_in (List.mem_of_getElem? (i := 1044) (by decide +kernel)) rfl
theorem k_1045 : Cond.fieldLink RJ5 22 "java/lang/AbstractStringBuilder" "coder" "B" ∈ lw_all := lw_all_in (List.mem_of_getElem? (i := 1045) (by decide +kernel)) rfl
theorem k_1046 : Cond.fieldLink RJ5 73 "java/lang/AbstractStringBuilder" "maybeLatin1" "Z" ∈ lw_all := lw_all_in (List.mem_of_getElem? (i := 1046) (by decide +kernel)) rfl
theorem k_1047 : Cond.fieldLink RJ0 1048 "java/lang/AbstractStringBuilder" "maybeLatin1" "Z" ∈ lw_all := lw_all_in (List.mem_of_getElem? (i := 1047) (by decide +kernel)) rfl
theorem k_1048 : Cond.fieldLink RJ5 79 "java/lang/AbstractStringBuilder" "count" "I" ∈ lw_all := lw_all_in (List.mem_of_getElem? (i := 1048) (by decide +kernel)) rfl
theorem k_1049 : Cond.lays RJ4 "java/lang/AbstractStringBuilder" "value" "[B" ∈ lw_all := lw_all_in (List.mem_of_getElem? (i := 1049) (by decide +kernel)) rfl
theorem k_1051 : Cond.lays RJ4 "java/lang/AbstractStringBuilder" "coder" "B" ∈ lw_all := lw_all_in (List.mem_of_getElem? (i := 1051) (by decide +kernel)) rfl
theorem k_1053 : Cond.lays RJ4 "java/lang/AbstractStringBuilder" "maybeLatin1" "Z" ∈ lw_all := lw_all_in (List.mem_of_getElem? (i := 1053) (by decide +kernel)) rfl
theorem k_1055 : Cond.lays RJ4 "java/lang/AbstractStringBuilder" "count" "I" ∈ lw_all := lw_all_in (List.mem_of_getElem? (i := 1055) (by decide +kernel)) rfl
theorem k_1058 : Cond.methodLink RL 159 yJ4_append_bf812 ∈ lw_all := lw_all_in (List.mem_of_getElem? (i := 1058) (by decide +kernel)) rfl
theorem k_1059 : Cond.instanceMethod yJ4_append_bf812 ∈ lw_all := lw_all_in (List.mem_of_getElem? (i := 1059) (by decide +kernel)) rfl
theorem k_1060 : Cond.selects RJ4 yJ4_append_bf812 yJ4_append_bf812 ∈ lw_all := lw_all_in (List.mem_of_getElem? (i := 1060) (by decide +kernel)) rfl
theorem k_1061 : Cond.code yJ4_append_bf812 cJ4_append_bf812 2 (some (.object "java/lang/StringBuilder")) ∈ lw_all := lw_all_in (List.mem_of_getElem? (i := 1061) (by decide +kernel)) rfl
theorem k_1062 : Cond.methodLink RJ4 53 yJ5_append_c97b9 ∈ lw_all := lw_all_in (List.mem_of_getElem? (i := 1062) (by decide +kernel)) rfl
theorem k_1063 : Cond.instanceMethod yJ5_append_c97b9 ∈ lw_all := lw_all_in (List.mem_of_getElem? (i := 1063) (by decide +kernel)) rfl
theorem k_1064 : Cond.code yJ5_append_c97b9 cJ5_append_c97b9 4 (some (.object "java/lang/AbstractStringBuilder")) ∈ lw_all := lw_all_in (List.mem_of_getElem? (i := 1064) (by decide +kernel)) rfl
theorem k_1065 : Cond.methodLink RJ5 245 yJ6_stringSize_0f7a4 ∈ lw_all := lw_all_in (List.mem_of_getElem? (i := 1065) (by decide +kernel)) rfl
theorem k_1066 : Cond.static yJ6_stringSize_0f7a4 ∈ lw_all := lw_all_in (List.mem_of_getElem? (i := 1066) (by decide +kernel)) rfl
theorem k_1067 : Cond.code yJ6_stringSize_0f7a4 cJ6_stringSize_0f7a4 4 (some .int) ∈ lw_all := lw_all_in (List.mem_of_getElem? (i := 1067) (by decide +kernel)) rfl
theorem k_1068 : Cond.methodLink RJ5 100 yJ5_ensureCapacityInternal_d00df ∈ lw_all := lw_all_in (List.mem_of_getElem? (i := 1068) (by decide +kernel)) rfl
theorem k_1070 : Cond.instanceMethod yJ5_ensureCapacityInternal_d00df ∈ lw_all := lw_all_in (List.mem_of_getElem? (i := 1070) (by decide +kernel)) rfl
theorem k_1071 : Cond.code yJ5_ensureCapacityInternal_d00df cJ5_ensureCapacityInternal_d00df 3 none ∈ lw_all := lw_all_in (List.mem_of_getElem? (i := 1071) (by decide +kernel)) rfl
theorem k_1072 : Cond.methodLink RJ5 104 yJ5_newCapacity_0f7a4 ∈ lw_all := lw_all_in (List.mem_of_getElem? (i := 1072) (by decide +kernel)) rfl
theorem k_1074 : Cond.instanceMethod yJ5_newCapacity_0f7a4 ∈ lw_all := lw_all_in (List.mem_of_getElem? (i := 1074) (by decide +kernel)) rfl
theorem k_1075 : Cond.code yJ5_newCapacity_0f7a4 cJ5_newCapacity_0f7a4 6 (some .int) ∈ lw_all := lw_all_in (List.mem_of_getElem? (i := 1075) (by decide +kernel)) rfl
theorem k_1076 : Cond.methodLink RJ5 114 yJ8_newLength_cabcc ∈ lw_all := lw_all_in (List.mem_of_getElem? (i := 1076) (by decide +kernel)) rfl
theorem k_1077 : Cond.constant RJ5 39 (2147483647) ∈ lw_all := lw_all_in (List.mem_of_getElem? (i := 1077) (by decide +kernel)) rfl
theorem k_1078 : Cond.methodLink RJ5 108 yJ7_copyOf_9075b ∈ lw_all := lw_all_in (List.mem_of_getElem? (i := 1078) (by decide +kernel)) rfl
theorem k_1079 : Cond.static yJ7_copyOf_9075b ∈ lw_all := lw_all_in (List.mem_of_getElem? (i := 1079) (by decide +kernel)) rfl
theorem k_1080 : Cond.code yJ7_copyOf_9075b cJ7_copyOf_9075b 3 (some (.array .byte)) ∈ lw_all := lw_all_in (List.mem_of_getElem? (i := 1080) (by decide +kernel)) rfl
theorem k_1081 : Cond.methodLink RJ7 310 ⟨"[B", "clone", "()Ljava/lang/Object;"⟩ ∈ lw_all := lw_all_in (List.mem_of_getElem? (i := 1081) (by decide +kernel)) rfl
theorem k_1082 : Cond.sameMethod "[B" "java/lang/Object" "clone" "()Ljava/lang/Object;" ∈ lw_all := lw_all_in (List.mem_of_getElem? (i := 1082) (by decide +kernel)) rfl
theorem k_1083 : Cond.native ⟨"java/lang/Object", "clone", "()Ljava/lang/Object;"⟩ ∈ lw_all := lw_all_in (List.mem_of_getElem? (i := 1083) (by decide +kernel)) rfl
theorem k_1084 : Cond.instanceMethod ⟨"java/lang/Object", "clone", "()Ljava/lang/Object;"⟩ ∈ lw_all := lw_all_in (List.mem_of_getElem? (i := 1084) (by decide +kernel)) rfl
theorem k_1085 : Cond.selects "[B" ⟨"[B", "clone", "()Ljava/lang/Object;"⟩ ⟨"java/lang/Object", "clone", "()Ljava/lang/Object;"⟩ ∈ lw_all := lw_all_in (List.mem_of_getElem? (i := 1085) (by decide +kernel)) rfl
theorem k_1087 : Cond.classLink RJ7 311 "[B" ∈ lw_all := lw_all_in (List.mem_of_getElem? (i := 1087) (by decide +kernel)) rfl
theorem k_1088 : Cond.methodLink RJ5 83 yJ5_isLatin1_aae02 ∈ lw_all := lw_all_in (List.mem_of_getElem? (i := 1088) (by decide +kernel)) rfl
theorem k_1089 : Cond.instanceMethod yJ5_isLatin1_aae02 ∈ lw_all := lw_all_in (List.mem_of_getElem? (i := 1089) (by decide +kernel)) rfl
theorem k_1090 : Cond.sameMethod RJ5 RJ5 "isLatin1" "()Z" ∈ lw_all := lw_all_in (List.mem_of_getElem? (i := 1090) (by decide +kernel)) rfl
theorem k_1091 : Cond.selects RJ4 yJ5_isLatin1_aae02 yJ5_isLatin1_aae02 ∈ lw_all := lw_all_in (List.mem_of_getElem? (i := 1091) (by decide +kernel)) rfl
theorem k_1092 : Cond.code yJ5_isLatin1_aae02 cJ5_isLatin1_aae02 1 (some .boolean) ∈ lw_all := lw_all_in (List.mem_of_getElem? (i := 1092) (by decide +kernel)) rfl
theorem k_1093 : Cond.methodLink RJ5 248 yJ6_getChars_ba4f3 ∈ lw_all := lw_all_in (List.mem_of_getElem? (i := 1093) (by decide +kernel)) rfl
theorem k_1094 : Cond.static yJ6_getChars_ba4f3 ∈ lw_all := lw_all_in (List.mem_of_getElem? (i := 1094) (by decide +kernel)) rfl
theorem k_1095 : Cond.code yJ6_getChars_ba4f3 cJ6_getChars_ba4f3 7 (some .int) ∈ lw_all := lw_all_in (List.mem_of_getElem? (i := 1095) (by decide +kernel)) rfl
theorem k_1096 : Cond.fieldLink RJ6 83 "java/lang/Integer" "DigitOnes" "[B" ∈ lw_all := lw_all_in (List.mem_of_getElem? (i := 1096) (by decide +kernel)) rfl
theorem k_1098 : Cond.fieldLink RJ6 87 "java/lang/Integer" "DigitTens" "[B" ∈ lw_all := lw_all_in (List.mem_of_getElem? (i := 1098) (by decide +kernel)) rfl
theorem k_1100 : Cond.methodLink RJ5 251 yJ2_getChars_46870 ∈ lw_all := lw_all_in (List.mem_of_getElem? (i := 1100) (by decide +kernel)) rfl
theorem k_1101 : Cond.static yJ2_getChars_46870 ∈ lw_all := lw_all_in (List.mem_of_getElem? (i := 1101) (by decide +kernel)) rfl
theorem k_1102 : Cond.code yJ2_getChars_46870 cJ2_getChars_46870 5 (some .int) ∈ lw_all := lw_all_in (List.mem_of_getElem? (i := 1102) (by decide +kernel)) rfl
theorem k_1103 : Cond.methodLink RJ2 96 yJ2_checkBoundsBeginEnd_d044e ∈ lw_all := lw_all_in (List.mem_of_getElem? (i := 1103) (by decide +kernel)) rfl
theorem k_1104 : Cond.static yJ2_checkBoundsBeginEnd_d044e ∈ lw_all := lw_all_in (List.mem_of_getElem? (i := 1104) (by decide +kernel)) rfl
theorem k_1105 : Cond.code yJ2_checkBoundsBeginEnd_d044e cJ2_checkBoundsBeginEnd_d044e 3 none ∈ lw_all := lw_all_in (List.mem_of_getElem? (i := 1105) (by decide +kernel)) rfl
theorem k_1106 : Cond.methodLink RJ2 48 yJ2_length_9d52b ∈ lw_all := lw_all_in (List.mem_of_getElem? (i := 1106) (by decide +kernel)) rfl
theorem k_1107 : Cond.static yJ2_length_9d52b ∈ lw_all := lw_all_in (List.mem_of_getElem? (i := 1107) (by decide +kernel)) rfl
theorem k_1108 : Cond.code yJ2_length_9d52b cJ2_length_9d52b 1 (some .int) ∈ lw_all := lw_all_in (List.mem_of_getElem? (i := 1108) (by decide +kernel)) rfl
theorem k_1109 : Cond.methodLink RJ2 241 yJ0_checkBoundsBeginEnd_23922 ∈ lw_all := lw_all_in (List.mem_of_getElem? (i := 1109) (by decide +kernel)) rfl
theorem k_1110 : Cond.static yJ0_checkBoundsBeginEnd_23922 ∈ lw_all := lw_all_in (List.mem_of_getElem? (i := 1110) (by decide +kernel)) rfl
theorem k_1111 : Cond.code yJ0_checkBoundsBeginEnd_23922 cJ0_checkBoundsBeginEnd_23922 3 none ∈ lw_all := lw_all_in (List.mem_of_getElem? (i := 1111) (by decide +kernel)) rfl
theorem k_1112 : Cond.fieldLink RJ0 1053 "jdk/internal/util/Preconditions" "SIOOBE_FORMATTER" "Ljava/util/function/BiFunction;" ∈ lw_all := lw_all_in (List.mem_of_getElem? (i := 1112) (by decide +kernel)) rfl
theorem k_1114 : Cond.methodLink RJ0 1062 yJ3_checkFromToIndex_8c36e ∈ lw_all := lw_all_in (List.mem_of_getElem? (i := 1114) (by decide +kernel)) rfl
theorem k_1115 : Cond.static yJ3_checkFromToIndex_8c36e ∈ lw_all := lw_all_in (List.mem_of_getElem? (i := 1115) (by decide +kernel)) rfl
theorem k_1116 : Cond.code yJ3_checkFromToIndex_8c36e cJ3_checkFromToIndex_8c36e 4 (some .int) ∈ lw_all := lw_all_in (List.mem_of_getElem? (i := 1116) (by decide +kernel)) rfl
theorem k_1117 : Cond.methodLink RJ2 393 yJ2_getChars_ba4f3 ∈ lw_all := lw_all_in (List.mem_of_getElem? (i := 1117) (by decide +kernel)) rfl
theorem k_1118 : Cond.static yJ2_getChars_ba4f3 ∈ lw_all := lw_all_in (List.mem_of_getElem? (i := 1118) (by decide +kernel)) rfl
theorem k_1119 : Cond.code yJ2_getChars_ba4f3 cJ2_getChars_ba4f3 7 (some .int) ∈ lw_all := lw_all_in (List.mem_of_getElem? (i := 1119) (by decide +kernel)) rfl
theorem k_1120 : Cond.fieldLink RJ2 403 "java/lang/Integer" "DigitOnes" "[B" ∈ lw_all := lw_all_in (List.mem_of_getElem? (i := 1120) (by decide +kernel)) rfl
theorem k_1121 : Cond.methodLink RJ2 111 yJ2_putChar_b72d1 ∈ lw_all := lw_all_in (List.mem_of_getElem? (i := 1121) (by decide +kernel)) rfl
theorem k_1122 : Cond.static yJ2_putChar_b72d1 ∈ lw_all := lw_all_in (List.mem_of_getElem? (i := 1122) (by decide +kernel)) rfl
theorem k_1123 : Cond.code yJ2_putChar_b72d1 cJ2_putChar_b72d1 3 none ∈ lw_all := lw_all_in (List.mem_of_getElem? (i := 1123) (by decide +kernel)) rfl
theorem k_1124 : Cond.fieldLink RJ2 44 "java/lang/StringUTF16" "$assertionsDisabled" "Z" ∈ lw_all := lw_all_in (List.mem_of_getElem? (i := 1124) (by decide +kernel)) rfl
theorem k_1126 : Cond.fieldLink RJ2 59 "java/lang/StringUTF16" "HI_BYTE_SHIFT" "I" ∈ lw_all := lw_all_in (List.mem_of_getElem? (i := 1126) (by decide +kernel)) rfl
theorem k_1128 : Cond.fieldLink RJ2 63 "java/lang/StringUTF16" "LO_BYTE_SHIFT" "I" ∈ lw_all := lw_all_in (List.mem_of_getElem? (i := 1128) (by decide +kernel)) rfl
theorem k_1130 : Cond.fieldLink RJ2 407 "java/lang/Integer" "DigitTens" "[B" ∈ lw_all := lw_all_in (List.mem_of_getElem? (i := 1130) (by decide +kernel)) rfl
theorem k_1131 : Cond.methodLink RL 163 yJ4_append_cf468 ∈ lw_all := lw_all_in (List.mem_of_getElem? (i := 1131) (by decide +kernel)) rfl
theorem k_1132 : Cond.instanceMethod yJ4_append_cf468 ∈ lw_all := lw_all_in (List.mem_of_getElem? (i := 1132) (by decide +kernel)) rfl
theorem k_1133 : Cond.selects RJ4 yJ4_append_cf468 yJ4_append_cf468 ∈ lw_all := lw_all_in (List.mem_of_getElem? (i := 1133) (by decide +kernel)) rfl
theorem k_1134 : Cond.code yJ4_append_cf468 cJ4_append_cf468 2 (some (.object "java/lang/StringBuilder")) ∈ lw_all := lw_all_in (List.mem_of_getElem? (i := 1134) (by decide +kernel)) rfl
theorem k_1135 : Cond.methodLink RJ4 50 yJ5_append_3fe6f ∈ lw_all := lw_all_in (List.mem_of_getElem? (i := 1135) (by decide +kernel)) rfl
theorem k_1136 : Cond.instanceMethod yJ5_append_3fe6f ∈ lw_all := lw_all_in (List.mem_of_getElem? (i := 1136) (by decide +kernel)) rfl
theorem k_1137 : Cond.code yJ5_append_3fe6f cJ5_append_3fe6f 2 (some (.object "java/lang/AbstractStringBuilder")) ∈ lw_all := lw_all_in (List.mem_of_getElem? (i := 1137) (by decide +kernel)) rfl
theorem k_1138 : Cond.methodLink RJ5 191 yJ1_canEncode_fc78d ∈ lw_all := lw_all_in (List.mem_of_getElem? (i := 1138) (by decide +kernel)) rfl
theorem k_1139 : Cond.static yJ1_canEncode_fc78d ∈ lw_all := lw_all_in (List.mem_of_getElem? (i := 1139) (by decide +kernel)) rfl
theorem k_1140 : Cond.code yJ1_canEncode_fc78d cJ1_canEncode_fc78d 1 (some .boolean) ∈ lw_all := lw_all_in (List.mem_of_getElem? (i := 1140) (by decide +kernel)) rfl
theorem k_1141 : Cond.methodLink RJ5 195 yJ5_inflate_da8c8 ∈ lw_all := lw_all_in (List.mem_of_getElem? (i := 1141) (by decide +kernel)) rfl
theorem k_1143 : Cond.instanceMethod yJ5_inflate_da8c8 ∈ lw_all := lw_all_in (List.mem_of_getElem? (i := 1143) (by decide +kernel)) rfl
theorem k_1144 : Cond.code yJ5_inflate_da8c8 cJ5_inflate_da8c8 2 none ∈ lw_all := lw_all_in (List.mem_of_getElem? (i := 1144) (by decide +kernel)) rfl
theorem k_1145 : Cond.methodLink RJ5 125 yJ1_inflate_0e8fd ∈ lw_all := lw_all_in (List.mem_of_getElem? (i := 1145) (by decide +kernel)) rfl
theorem k_1146 : Cond.static yJ1_inflate_0e8fd ∈ lw_all := lw_all_in (List.mem_of_getElem? (i := 1146) (by decide +kernel)) rfl
theorem k_1147 : Cond.code yJ1_inflate_0e8fd cJ1_inflate_0e8fd 5 none ∈ lw_all := lw_all_in (List.mem_of_getElem? (i := 1147) (by decide +kernel)) rfl
theorem k_1148 : Cond.methodLink RJ1 240 yJ2_inflate_0e8fd ∈ lw_all := lw_all_in (List.mem_of_getElem? (i := 1148) (by decide +kernel)) rfl
theorem k_1149 : Cond.static yJ2_inflate_0e8fd ∈ lw_all := lw_all_in (List.mem_of_getElem? (i := 1149) (by decide +kernel)) rfl
theorem k_1150 : Cond.code yJ2_inflate_0e8fd cJ2_inflate_0e8fd 6 none ∈ lw_all := lw_all_in (List.mem_of_getElem? (i := 1150) (by decide +kernel)) rfl
theorem k_1151 : Cond.methodLink RJ2 173 yJ2_checkBoundsOffCount_d044e ∈ lw_all := lw_all_in (List.mem_of_getElem? (i := 1151) (by decide +kernel)) rfl
theorem k_1152 : Cond.static yJ2_checkBoundsOffCount_d044e ∈ lw_all := lw_all_in (List.mem_of_getElem? (i := 1152) (by decide +kernel)) rfl
theorem k_1153 : Cond.code yJ2_checkBoundsOffCount_d044e cJ2_checkBoundsOffCount_d044e 3 none ∈ lw_all := lw_all_in (List.mem_of_getElem? (i := 1153) (by decide +kernel)) rfl
theorem k_1154 : Cond.methodLink RJ2 419 yJ0_checkBoundsOffCount_cabcc ∈ lw_all := lw_all_in (List.mem_of_getElem? (i := 1154) (by decide +kernel)) rfl
theorem k_1155 : Cond.static yJ0_checkBoundsOffCount_cabcc ∈ lw_all := lw_all_in (List.mem_of_getElem? (i := 1155) (by decide +kernel)) rfl
theorem k_1156 : Cond.code yJ0_checkBoundsOffCount_cabcc cJ0_checkBoundsOffCount_cabcc 3 (some .int) ∈ lw_all := lw_all_in (List.mem_of_getElem? (i := 1156) (by decide +kernel)) rfl
theorem k_1157 : Cond.methodLink RJ0 1065 yJ3_checkFromIndexSize_8c36e ∈ lw_all := lw_all_in (List.mem_of_getElem? (i := 1157) (by decide +kernel)) rfl
theorem k_1158 : Cond.static yJ3_checkFromIndexSize_8c36e ∈ lw_all := lw_all_in (List.mem_of_getElem? (i := 1158) (by decide +kernel)) rfl
theorem k_1159 : Cond.code yJ3_checkFromIndexSize_8c36e cJ3_checkFromIndexSize_8c36e 4 (some .int) ∈ lw_all := lw_all_in (List.mem_of_getElem? (i := 1159) (by decide +kernel)) rfl
theorem k_1160 : Cond.methodLink RJ5 197 yJ2_putCharSB_b72d1 ∈ lw_all := lw_all_in (List.mem_of_getElem? (i := 1160) (by decide +kernel)) rfl
theorem k_1161 : Cond.static yJ2_putCharSB_b72d1 ∈ lw_all := lw_all_in (List.mem_of_getElem? (i := 1161) (by decide +kernel)) rfl
theorem k_1162 : Cond.code yJ2_putCharSB_b72d1 cJ2_putCharSB_b72d1 3 none ∈ lw_all := lw_all_in (List.mem_of_getElem? (i := 1162) (by decide +kernel)) rfl
theorem k_1163 : Cond.methodLink RJ2 67 yJ2_checkIndex_2214a ∈ lw_all := lw_all_in (List.mem_of_getElem? (i := 1163) (by decide +kernel)) rfl
theorem k_1164 : Cond.static yJ2_checkIndex_2214a ∈ lw_all := lw_all_in (List.mem_of_getElem? (i := 1164) (by decide +kernel)) rfl
theorem k_1165 : Cond.code yJ2_checkIndex_2214a cJ2_checkIndex_2214a 2 none ∈ lw_all := lw_all_in (List.mem_of_getElem? (i := 1165) (by decide +kernel)) rfl
theorem k_1166 : Cond.methodLink RJ2 414 yJ0_checkIndex_df160 ∈ lw_all := lw_all_in (List.mem_of_getElem? (i := 1166) (by decide +kernel)) rfl
theorem k_1167 : Cond.static yJ0_checkIndex_df160 ∈ lw_all := lw_all_in (List.mem_of_getElem? (i := 1167) (by decide +kernel)) rfl
theorem k_1168 : Cond.code yJ0_checkIndex_df160 cJ0_checkIndex_df160 2 none ∈ lw_all := lw_all_in (List.mem_of_getElem? (i := 1168) (by decide +kernel)) rfl
theorem k_1169 : Cond.methodLink RJ0 1059 yJ3_checkIndex_8e157 ∈ lw_all := lw_all_in (List.mem_of_getElem? (i := 1169) (by decide +kernel)) rfl
theorem k_1170 : Cond.methodLink RL 166 yX8_beats ∈ lw_all := lw_all_in (List.mem_of_getElem? (i := 1170) (by decide +kernel)) rfl
theorem k_1171 : Cond.instanceMethod yX8_beats ∈ lw_all := lw_all_in (List.mem_of_getElem? (i := 1171) (by decide +kernel)) rfl
theorem k_1172 : Cond.selects RX8 yX8_beats yX8_beats ∈ lw_all := lw_all_in (List.mem_of_getElem? (i := 1172) (by decide +kernel)) rfl
theorem k_1173 : Cond.code yX8_beats cX8_beats 1 (some .long) ∈ lw_all := lw_all_in (List.mem_of_getElem? (i := 1173) (by decide +kernel)) rfl
theorem k_1174 : Cond.methodLink RL 170 yJ4_append_f7089 ∈ lw_all := lw_all_in (List.mem_of_getElem? (i := 1174) (by decide +kernel)) rfl
theorem k_1175 : Cond.instanceMethod yJ4_append_f7089 ∈ lw_all := lw_all_in (List.mem_of_getElem? (i := 1175) (by decide +kernel)) rfl
theorem k_1176 : Cond.selects RJ4 yJ4_append_f7089 yJ4_append_f7089 ∈ lw_all := lw_all_in (List.mem_of_getElem? (i := 1176) (by decide +kernel)) rfl
theorem k_1177 : Cond.code yJ4_append_f7089 cJ4_append_f7089 3 (some (.object "java/lang/StringBuilder")) ∈ lw_all := lw_all_in (List.mem_of_getElem? (i := 1177) (by decide +kernel)) rfl
theorem k_1178 : Cond.methodLink RJ4 56 yJ5_append_66267 ∈ lw_all := lw_all_in (List.mem_of_getElem? (i := 1178) (by decide +kernel)) rfl
theorem k_1179 : Cond.instanceMethod yJ5_append_66267 ∈ lw_all := lw_all_in (List.mem_of_getElem? (i := 1179) (by decide +kernel)) rfl
theorem k_1180 : Cond.code yJ5_append_66267 cJ5_append_66267 5 (some (.object "java/lang/AbstractStringBuilder")) ∈ lw_all := lw_all_in (List.mem_of_getElem? (i := 1180) (by decide +kernel)) rfl
theorem k_1181 : Cond.methodLink RJ5 254 yJ13_stringSize_95d88 ∈ lw_all := lw_all_in (List.mem_of_getElem? (i := 1181) (by decide +kernel)) rfl
theorem k_1182 : Cond.static yJ13_stringSize_95d88 ∈ lw_all := lw_all_in (List.mem_of_getElem? (i := 1182) (by decide +kernel)) rfl
theorem k_1183 : Cond.code yJ13_stringSize_95d88 cJ13_stringSize_95d88 6 (some .int) ∈ lw_all := lw_all_in (List.mem_of_getElem? (i := 1183) (by decide +kernel)) rfl
theorem k_1184 : Cond.constantLong RJ13 140 (-10) ∈ lw_all := lw_all_in (List.mem_of_getElem? (i := 1184) (by decide +kernel)) rfl
theorem k_1185 : Cond.constantLong RJ13 53 (10) ∈ lw_all := lw_all_in (List.mem_of_getElem? (i := 1185) (by decide +kernel)) rfl
theorem k_1186 : Cond.methodLink RJ5 259 yJ13_getChars_11360 ∈ lw_all := lw_all_in (List.mem_of_getElem? (i := 1186) (by decide +kernel)) rfl
theorem k_1187 : Cond.static yJ13_getChars_11360 ∈ lw_all := lw_all_in (List.mem_of_getElem? (i := 1187) (by decide +kernel)) rfl
theorem k_1188 : Cond.code yJ13_getChars_11360 cJ13_getChars_11360 11 (some .int) ∈ lw_all := lw_all_in (List.mem_of_getElem? (i := 1188) (by decide +kernel)) rfl
theorem k_1189 : Cond.constantLong RJ13 129 (-2147483648) ∈ lw_all := lw_all_in (List.mem_of_getElem? (i := 1189) (by decide +kernel)) rfl
theorem k_1190 : Cond.constantLong RJ13 131 (100) ∈ lw_all := lw_all_in (List.mem_of_getElem? (i := 1190) (by decide +kernel)) rfl
theorem k_1191 : Cond.fieldLink RJ13 133 "java/lang/Integer" "DigitOnes" "[B" ∈ lw_all := lw_all_in (List.mem_of_getElem? (i := 1191) (by decide +kernel)) rfl
theorem k_1192 : Cond.fieldLink RJ13 137 "java/lang/Integer" "DigitTens" "[B" ∈ lw_all := lw_all_in (List.mem_of_getElem? (i := 1192) (by decide +kernel)) rfl
theorem k_1193 : Cond.methodLink RJ5 262 yJ2_getChars_1ba55 ∈ lw_all := lw_all_in (List.mem_of_getElem? (i := 1193) (by decide +kernel)) rfl
theorem k_1194 : Cond.static yJ2_getChars_1ba55 ∈ lw_all := lw_all_in (List.mem_of_getElem? (i := 1194) (by decide +kernel)) rfl
theorem k_1195 : Cond.code yJ2_getChars_1ba55 cJ2_getChars_1ba55 6 (some .int) ∈ lw_all := lw_all_in (List.mem_of_getElem? (i := 1195) (by decide +kernel)) rfl
theorem k_1196 : Cond.methodLink RJ2 396 yJ2_getChars_11360 ∈ lw_all := lw_all_in (List.mem_of_getElem? (i := 1196) (by decide +kernel)) rfl
theorem k_1197 : Cond.static yJ2_getChars_11360 ∈ lw_all := lw_all_in (List.mem_of_getElem? (i := 1197) (by decide +kernel)) rfl
theorem k_1198 : Cond.code yJ2_getChars_11360 cJ2_getChars_11360 11 (some .int) ∈ lw_all := lw_all_in (List.mem_of_getElem? (i := 1198) (by decide +kernel)) rfl
theorem k_1199 : Cond.constantLong RJ2 410 (-2147483648) ∈ lw_all := lw_all_in (List.mem_of_getElem? (i := 1199) (by decide +kernel)) rfl
theorem k_1200 : Cond.constantLong RJ2 412 (100) ∈ lw_all := lw_all_in (List.mem_of_getElem? (i := 1200) (by decide +kernel)) rfl
theorem k_1201 : Cond.methodLink RL 196 yJ4_append_9d4c8 ∈ lw_all := lw_all_in (List.mem_of_getElem? (i := 1201) (by decide +kernel)) rfl
theorem k_1202 : Cond.instanceMethod yJ4_append_9d4c8 ∈ lw_all := lw_all_in (List.mem_of_getElem? (i := 1202) (by decide +kernel)) rfl
theorem k_1203 : Cond.selects RJ4 yJ4_append_9d4c8 yJ4_append_9d4c8 ∈ lw_all := lw_all_in (List.mem_of_getElem? (i := 1203) (by decide +kernel)) rfl
theorem k_1204 : Cond.code yJ4_append_9d4c8 cJ4_append_9d4c8 2 (some (.object "java/lang/StringBuilder")) ∈ lw_all := lw_all_in (List.mem_of_getElem? (i := 1204) (by decide +kernel)) rfl
theorem k_1205 : Cond.methodLink RJ4 59 yJ5_append_b089e ∈ lw_all := lw_all_in (List.mem_of_getElem? (i := 1205) (by decide +kernel)) rfl
theorem k_1206 : Cond.instanceMethod yJ5_append_b089e ∈ lw_all := lw_all_in (List.mem_of_getElem? (i := 1206) (by decide +kernel)) rfl
theorem k_1208 : Cond.methodLink RJ5 265 yJx40b00_appendTo_8d9f2 ∈ lw_all := lw_all_in (List.mem_of_getElem? (i := 1208) (by decide +kernel)) rfl
theorem k_1209 : Cond.static yJx40b00_appendTo_8d9f2 ∈ lw_all := lw_all_in (List.mem_of_getElem? (i := 1209) (by decide +kernel)) rfl
theorem k_1210 : Cond.code yJx40b00_appendTo_8d9f2 cJx40b00_appendTo_8d9f2 2 (some (.object "java/lang/Appendable")) ∈ lw_all := lw_all_in (List.mem_of_getElem? (i := 1210) (by decide +kernel)) rfl
theorem k_1211 : Cond.classLink RJx40b00 3 RJx40b00 ∈ lw_all := lw_all_in (List.mem_of_getElem? (i := 1211) (by decide +kernel)) rfl
theorem k_1212 : Cond.instantiable RJx40b00 2 ∈ lw_all := lw_all_in (List.mem_of_getElem? (i := 1212) (by decide +kernel)) rfl
theorem k_1213 : Cond.methodLink RJx40b00 15 yJx40b00_init_da8c8 ∈ lw_all := lw_all_in (List.mem_of_getElem? (i := 1213) (by decide +kernel)) rfl
theorem k_1214 : Cond.instanceMethod yJx40b00_init_da8c8 ∈ lw_all := lw_all_in (List.mem_of_getElem? (i := 1214) (by decide +kernel)) rfl
theorem k_1215 : Cond.code yJx40b00_init_da8c8 cJx40b00_init_da8c8 1 none ∈ lw_all := lw_all_in (List.mem_of_getElem? (i := 1215) (by decide +kernel)) rfl
theorem k_1216 : Cond.methodLink RJx40b00 5 objectInit ∈ lw_all := lw_all_in (List.mem_of_getElem? (i := 1216) (by decide +kernel)) rfl
theorem k_1217 : Cond.fieldLink RJx40b00 11 "jdk/internal/math/FloatToDecimal" "bytes" "[B" ∈ lw_all := lw_all_in (List.mem_of_getElem? (i := 1217) (by decide +kernel)) rfl
theorem k_1218 : Cond.fieldLink RJx40b00 42 "jdk/internal/math/FloatToDecimal" "index" "I" ∈ lw_all := lw_all_in (List.mem_of_getElem? (i := 1218) (by decide +kernel)) rfl
theorem k_1219 : Cond.laysFinal RJx40b00 "jdk/internal/math/FloatToDecimal" "bytes" "[B" ∈ lw_all := lw_all_in (List.mem_of_getElem? (i := 1219) (by decide +kernel)) rfl
theorem k_1221 : Cond.lays RJx40b00 "jdk/internal/math/FloatToDecimal" "index" "I" ∈ lw_all := lw_all_in (List.mem_of_getElem? (i := 1221) (by decide +kernel)) rfl
theorem k_1224 : Cond.methodLink RJx40b00 20 yJx40b00_appendDecimalTo_8d9f2 ∈ lw_all := lw_all_in (List.mem_of_getElem? (i := 1224) (by decide +kernel)) rfl
theorem k_1226 : Cond.instanceMethod yJx40b00_appendDecimalTo_8d9f2 ∈ lw_all := lw_all_in (List.mem_of_getElem? (i := 1226) (by decide +kernel)) rfl
theorem k_1227 : Cond.code yJx40b00_appendDecimalTo_8d9f2 cJx40b00_appendDecimalTo_8d9f2 8 (some (.object "java/lang/Appendable")) ∈ lw_all := lw_all_in (List.mem_of_getElem? (i := 1227) (by decide +kernel)) rfl
theorem k_1228 : Cond.methodLink RJx40b00 24 yJx40b00_toDecimal_5c35a ∈ lw_all := lw_all_in (List.mem_of_getElem? (i := 1228) (by decide +kernel)) rfl
theorem k_1230 : Cond.instanceMethod yJx40b00_toDecimal_5c35a ∈ lw_all := lw_all_in (List.mem_of_getElem? (i := 1230) (by decide +kernel)) rfl
theorem k_1231 : Cond.code yJx40b00_toDecimal_5c35a cJx40b00_toDecimal_5c35a 8 (some .int) ∈ lw_all := lw_all_in (List.mem_of_getElem? (i := 1231) (by decide +kernel)) rfl
theorem k_1232 : Cond.methodLink RJx40b00 65 ⟨"java/lang/Float", "floatToRawIntBits", "(F)I"⟩ ∈ lw_all := lw_all_in (List.mem_of_getElem? (i := 1232) (by decide +kernel)) rfl
theorem k_1233 : Cond.static ⟨"java/lang/Float", "floatToRawIntBits", "(F)I"⟩ ∈ lw_all := lw_all_in (List.mem_of_getElem? (i := 1233) (by decide +kernel)) rfl
theorem k_1234 : Cond.native ⟨"java/lang/Float", "floatToRawIntBits", "(F)I"⟩ ∈ lw_all := lw_all_in (List.mem_of_getElem? (i := 1234) (by decide +kernel)) rfl
theorem k_1235 : Cond.constant RJx40b00 68 (8388607) ∈ lw_all := lw_all_in (List.mem_of_getElem? (i := 1235) (by decide +kernel)) rfl
theorem k_1236 : Cond.methodLink RJx40b00 69 yJx40b00_append_d00df ∈ lw_all := lw_all_in (List.mem_of_getElem? (i := 1236) (by decide +kernel)) rfl
theorem k_1238 : Cond.instanceMethod yJx40b00_append_d00df ∈ lw_all := lw_all_in (List.mem_of_getElem? (i := 1238) (by decide +kernel)) rfl
theorem k_1239 : Cond.code yJx40b00_append_d00df cJx40b00_append_d00df 2 none ∈ lw_all := lw_all_in (List.mem_of_getElem? (i := 1239) (by decide +kernel)) rfl
theorem k_1240 : Cond.constant RJx40b00 72 (8388608) ∈ lw_all := lw_all_in (List.mem_of_getElem? (i := 1240) (by decide +kernel)) rfl
theorem k_1241 : Cond.methodLink RJx40b00 73 yJx40b00_toChars_7cf53 ∈ lw_all := lw_all_in (List.mem_of_getElem? (i := 1241) (by decide +kernel)) rfl
theorem k_1243 : Cond.instanceMethod yJx40b00_toChars_7cf53 ∈ lw_all := lw_all_in (List.mem_of_getElem? (i := 1243) (by decide +kernel)) rfl
theorem k_1244 : Cond.code yJx40b00_toChars_7cf53 cJx40b00_toChars_7cf53 6 (some .int) ∈ lw_all := lw_all_in (List.mem_of_getElem? (i := 1244) (by decide +kernel)) rfl
theorem k_1245 : Cond.methodLink RJx40b00 114 yJ6_numberOfLeadingZeros_0f7a4 ∈ lw_all := lw_all_in (List.mem_of_getElem? (i := 1245) (by decide +kernel)) rfl
theorem k_1246 : Cond.static yJ6_numberOfLeadingZeros_0f7a4 ∈ lw_all := lw_all_in (List.mem_of_getElem? (i := 1246) (by decide +kernel)) rfl
theorem k_1247 : Cond.code yJ6_numberOfLeadingZeros_0f7a4 cJ6_numberOfLeadingZeros_0f7a4 2 (some .int) ∈ lw_all := lw_all_in (List.mem_of_getElem? (i := 1247) (by decide +kernel)) rfl
theorem k_1248 : Cond.constant RJ6 264 (65536) ∈ lw_all := lw_all_in (List.mem_of_getElem? (i := 1248) (by decide +kernel)) rfl
theorem k_1249 : Cond.methodLink RJx40b00 82 yJx25f51_flog10pow2_0f7a4 ∈ lw_all := lw_all_in (List.mem_of_getElem? (i := 1249) (by decide +kernel)) rfl
theorem k_1250 : Cond.static yJx25f51_flog10pow2_0f7a4 ∈ lw_all := lw_all_in (List.mem_of_getElem? (i := 1250) (by decide +kernel)) rfl
theorem k_1251 : Cond.code yJx25f51_flog10pow2_0f7a4 cJx25f51_flog10pow2_0f7a4 1 (some .int) ∈ lw_all := lw_all_in (List.mem_of_getElem? (i := 1251) (by decide +kernel)) rfl
theorem k_1252 : Cond.constantLong RJx25f51 20 (661971961083) ∈ lw_all := lw_all_in (List.mem_of_getElem? (i := 1252) (by decide +kernel)) rfl
theorem k_1253 : Cond.methodLink RJx40b00 117 yJx25f51_pow10_3e8ac ∈ lw_all := lw_all_in (List.mem_of_getElem? (i := 1253) (by decide +kernel)) rfl
theorem k_1254 : Cond.static yJx25f51_pow10_3e8ac ∈ lw_all := lw_all_in (List.mem_of_getElem? (i := 1254) (by decide +kernel)) rfl
theorem k_1255 : Cond.code yJx25f51_pow10_3e8ac cJx25f51_pow10_3e8ac 1 (some .long) ∈ lw_all := lw_all_in (List.mem_of_getElem? (i := 1255) (by decide +kernel)) rfl
theorem k_1256 : Cond.fieldLink RJx25f51 14 "jdk/internal/math/MathUtils" "pow10" "[J" ∈ lw_all := lw_all_in (List.mem_of_getElem? (i := 1256) (by decide +kernel)) rfl
theorem k_1258 : Cond.constantLong RJx40b00 120 (1441151881) ∈ lw_all := lw_all_in (List.mem_of_getElem? (i := 1258) (by decide +kernel)) rfl
theorem k_1259 : Cond.constant RJx40b00 122 (100000000) ∈ lw_all := lw_all_in (List.mem_of_getElem? (i := 1259) (by decide +kernel)) rfl
theorem k_1260 : Cond.methodLink RJx40b00 123 yJx40b00_toChars1_cabcc ∈ lw_all := lw_all_in (List.mem_of_getElem? (i := 1260) (by decide +kernel)) rfl
theorem k_1262 : Cond.instanceMethod yJx40b00_toChars1_cabcc ∈ lw_all := lw_all_in (List.mem_of_getElem? (i := 1262) (by decide +kernel)) rfl
theorem k_1263 : Cond.code yJx40b00_toChars1_cabcc cJx40b00_toChars1_cabcc 7 (some .int) ∈ lw_all := lw_all_in (List.mem_of_getElem? (i := 1263) (by decide +kernel)) rfl
theorem k_1264 : Cond.methodLink RJx40b00 132 yJx40b00_appendDigit_d00df ∈ lw_all := lw_all_in (List.mem_of_getElem? (i := 1264) (by decide +kernel)) rfl
theorem k_1266 : Cond.instanceMethod yJx40b00_appendDigit_d00df ∈ lw_all := lw_all_in (List.mem_of_getElem? (i := 1266) (by decide +kernel)) rfl
theorem k_1267 : Cond.code yJx40b00_appendDigit_d00df cJx40b00_appendDigit_d00df 2 none ∈ lw_all := lw_all_in (List.mem_of_getElem? (i := 1267) (by decide +kernel)) rfl
theorem k_1268 : Cond.methodLink RJx40b00 135 yJx40b00_y_0f7a4 ∈ lw_all := lw_all_in (List.mem_of_getElem? (i := 1268) (by decide +kernel)) rfl
theorem k_1270 : Cond.instanceMethod yJx40b00_y_0f7a4 ∈ lw_all := lw_all_in (List.mem_of_getElem? (i := 1270) (by decide +kernel)) rfl
theorem k_1271 : Cond.code yJx40b00_y_0f7a4 cJx40b00_y_0f7a4 2 (some .int) ∈ lw_all := lw_all_in (List.mem_of_getElem? (i := 1271) (by decide +kernel)) rfl
theorem k_1272 : Cond.constantLong RJx40b00 148 (193428131138340668) ∈ lw_all := lw_all_in (List.mem_of_getElem? (i := 1272) (by decide +kernel)) rfl
theorem k_1273 : Cond.methodLink RJx40b00 104 yJ9_multiplyHigh_f86c9 ∈ lw_all := lw_all_in (List.mem_of_getElem? (i := 1273) (by decide +kernel)) rfl
theorem k_1274 : Cond.static yJ9_multiplyHigh_f86c9 ∈ lw_all := lw_all_in (List.mem_of_getElem? (i := 1274) (by decide +kernel)) rfl
theorem k_1275 : Cond.code yJ9_multiplyHigh_f86c9 cJ9_multiplyHigh_f86c9 20 (some .long) ∈ lw_all := lw_all_in (List.mem_of_getElem? (i := 1275) (by decide +kernel)) rfl
theorem k_1276 : Cond.constantLong RJ9 138 (4294967295) ∈ lw_all := lw_all_in (List.mem_of_getElem? (i := 1276) (by decide +kernel)) rfl
theorem k_1277 : Cond.constant RJx40b00 138 (268435455) ∈ lw_all := lw_all_in (List.mem_of_getElem? (i := 1277) (by decide +kernel)) rfl
theorem k_1278 : Cond.methodLink RJx40b00 139 yJx40b00_removeTrailingZeroes_da8c8 ∈ lw_all := lw_all_in (List.mem_of_getElem? (i := 1278) (by decide +kernel)) rfl
theorem k_1280 : Cond.instanceMethod yJx40b00_removeTrailingZeroes_da8c8 ∈ lw_all := lw_all_in (List.mem_of_getElem? (i := 1280) (by decide +kernel)) rfl
theorem k_1281 : Cond.code yJx40b00_removeTrailingZeroes_da8c8 cJx40b00_removeTrailingZeroes_da8c8 1 none ∈ lw_all := lw_all_in (List.mem_of_getElem? (i := 1281) (by decide +kernel)) rfl
theorem k_1282 : Cond.methodLink RJx40b00 126 yJx40b00_toChars2_cabcc ∈ lw_all := lw_all_in (List.mem_of_getElem? (i := 1282) (by decide +kernel)) rfl
theorem k_1284 : Cond.instanceMethod yJx40b00_toChars2_cabcc ∈ lw_all := lw_all_in (List.mem_of_getElem? (i := 1284) (by decide +kernel)) rfl
theorem k_1285 : Cond.code yJx40b00_toChars2_cabcc cJx40b00_toChars2_cabcc 4 (some .int) ∈ lw_all := lw_all_in (List.mem_of_getElem? (i := 1285) (by decide +kernel)) rfl
theorem k_1286 : Cond.methodLink RJx40b00 142 yJx40b00_append8Digits_d00df ∈ lw_all := lw_all_in (List.mem_of_getElem? (i := 1286) (by decide +kernel)) rfl
theorem k_1288 : Cond.instanceMethod yJx40b00_append8Digits_d00df ∈ lw_all := lw_all_in (List.mem_of_getElem? (i := 1288) (by decide +kernel)) rfl
theorem k_1289 : Cond.code yJx40b00_append8Digits_d00df cJx40b00_append8Digits_d00df 5 none ∈ lw_all := lw_all_in (List.mem_of_getElem? (i := 1289) (by decide +kernel)) rfl
theorem k_1290 : Cond.methodLink RJx40b00 129 yJx40b00_toChars3_cabcc ∈ lw_all := lw_all_in (List.mem_of_getElem? (i := 1290) (by decide +kernel)) rfl
theorem k_1292 : Cond.instanceMethod yJx40b00_toChars3_cabcc ∈ lw_all := lw_all_in (List.mem_of_getElem? (i := 1292) (by decide +kernel)) rfl
theorem k_1293 : Cond.code yJx40b00_toChars3_cabcc cJx40b00_toChars3_cabcc 4 (some .int) ∈ lw_all := lw_all_in (List.mem_of_getElem? (i := 1293) (by decide +kernel)) rfl
theorem k_1294 : Cond.methodLink RJx40b00 145 yJx40b00_exponent_d00df ∈ lw_all := lw_all_in (List.mem_of_getElem? (i := 1294) (by decide +kernel)) rfl
theorem k_1296 : Cond.instanceMethod yJx40b00_exponent_d00df ∈ lw_all := lw_all_in (List.mem_of_getElem? (i := 1296) (by decide +kernel)) rfl
theorem k_1297 : Cond.code yJx40b00_exponent_d00df cJx40b00_exponent_d00df 3 none ∈ lw_all := lw_all_in (List.mem_of_getElem? (i := 1297) (by decide +kernel)) rfl
theorem k_1298 : Cond.methodLink RJx40b00 77 yJx40b00_toDecimal_cabcc ∈ lw_all := lw_all_in (List.mem_of_getElem? (i := 1298) (by decide +kernel)) rfl
theorem k_1300 : Cond.instanceMethod yJx40b00_toDecimal_cabcc ∈ lw_all := lw_all_in (List.mem_of_getElem? (i := 1300) (by decide +kernel)) rfl
theorem k_1301 : Cond.code yJx40b00_toDecimal_cabcc cJx40b00_toDecimal_cabcc 23 (some .int) ∈ lw_all := lw_all_in (List.mem_of_getElem? (i := 1301) (by decide +kernel)) rfl
theorem k_1302 : Cond.constantLong RJx40b00 80 (2) ∈ lw_all := lw_all_in (List.mem_of_getElem? (i := 1302) (by decide +kernel)) rfl
theorem k_1303 : Cond.methodLink RJx40b00 88 yJx25f51_flog10threeQuartersPow2_0f7a4 ∈ lw_all := lw_all_in (List.mem_of_getElem? (i := 1303) (by decide +kernel)) rfl
theorem k_1304 : Cond.static yJx25f51_flog10threeQuartersPow2_0f7a4 ∈ lw_all := lw_all_in (List.mem_of_getElem? (i := 1304) (by decide +kernel)) rfl
theorem k_1305 : Cond.code yJx25f51_flog10threeQuartersPow2_0f7a4 cJx25f51_flog10threeQuartersPow2_0f7a4 1 (some .int) ∈ lw_all := lw_all_in (List.mem_of_getElem? (i := 1305) (by decide +kernel)) rfl
theorem k_1306 : Cond.constantLong RJx25f51 22 (-274743187321) ∈ lw_all := lw_all_in (List.mem_of_getElem? (i := 1306) (by decide +kernel)) rfl
theorem k_1307 : Cond.methodLink RJx40b00 91 yJx25f51_flog2pow10_0f7a4 ∈ lw_all := lw_all_in (List.mem_of_getElem? (i := 1307) (by decide +kernel)) rfl
theorem k_1308 : Cond.static yJx25f51_flog2pow10_0f7a4 ∈ lw_all := lw_all_in (List.mem_of_getElem? (i := 1308) (by decide +kernel)) rfl
theorem k_1309 : Cond.code yJx25f51_flog2pow10_0f7a4 cJx25f51_flog2pow10_0f7a4 1 (some .int) ∈ lw_all := lw_all_in (List.mem_of_getElem? (i := 1309) (by decide +kernel)) rfl
theorem k_1310 : Cond.constantLong RJx25f51 24 (913124641741) ∈ lw_all := lw_all_in (List.mem_of_getElem? (i := 1310) (by decide +kernel)) rfl
theorem k_1311 : Cond.methodLink RJx40b00 94 yJx25f51_g1_3e8ac ∈ lw_all := lw_all_in (List.mem_of_getElem? (i := 1311) (by decide +kernel)) rfl
theorem k_1312 : Cond.static yJx25f51_g1_3e8ac ∈ lw_all := lw_all_in (List.mem_of_getElem? (i := 1312) (by decide +kernel)) rfl
theorem k_1313 : Cond.code yJx25f51_g1_3e8ac cJx25f51_g1_3e8ac 1 (some .long) ∈ lw_all := lw_all_in (List.mem_of_getElem? (i := 1313) (by decide +kernel)) rfl
theorem k_1314 : Cond.fieldLink RJx25f51 26 "jdk/internal/math/MathUtils" "g" "[J" ∈ lw_all := lw_all_in (List.mem_of_getElem? (i := 1314) (by decide +kernel)) rfl
theorem k_1316 : Cond.methodLink RJx40b00 98 yJx40b00_rop_74951 ∈ lw_all := lw_all_in (List.mem_of_getElem? (i := 1316) (by decide +kernel)) rfl
theorem k_1317 : Cond.static yJx40b00_rop_74951 ∈ lw_all := lw_all_in (List.mem_of_getElem? (i := 1317) (by decide +kernel)) rfl
theorem k_1318 : Cond.code yJx40b00_rop_74951 cJx40b00_rop_74951 8 (some .int) ∈ lw_all := lw_all_in (List.mem_of_getElem? (i := 1318) (by decide +kernel)) rfl
theorem k_1319 : Cond.constantLong RJx40b00 110 (4294967295) ∈ lw_all := lw_all_in (List.mem_of_getElem? (i := 1319) (by decide +kernel)) rfl
theorem k_1320 : Cond.constantLong RJx40b00 102 (1717986919) ∈ lw_all := lw_all_in (List.mem_of_getElem? (i := 1320) (by decide +kernel)) rfl
theorem k_1321 : Cond.classLink RJx40b00 46 RJ4 ∈ lw_all := lw_all_in (List.mem_of_getElem? (i := 1321) (by decide +kernel)) rfl
theorem k_1322 : Cond.methodLink RJx40b00 48 yJ4_append_37e8c ∈ lw_all := lw_all_in (List.mem_of_getElem? (i := 1322) (by decide +kernel)) rfl
theorem k_1323 : Cond.instanceMethod yJ4_append_37e8c ∈ lw_all := lw_all_in (List.mem_of_getElem? (i := 1323) (by decide +kernel)) rfl
theorem k_1324 : Cond.selects RJ4 yJ4_append_37e8c yJ4_append_37e8c ∈ lw_all := lw_all_in (List.mem_of_getElem? (i := 1324) (by decide +kernel)) rfl
theorem k_1325 : Cond.code yJ4_append_37e8c cJ4_append_37e8c 2 (some (.object "java/lang/StringBuilder")) ∈ lw_all := lw_all_in (List.mem_of_getElem? (i := 1325) (by decide +kernel)) rfl
theorem k_1326 : Cond.methodLink RJ4 41 yJ5_append_a1634 ∈ lw_all := lw_all_in (List.mem_of_getElem? (i := 1326) (by decide +kernel)) rfl
theorem k_1327 : Cond.instanceMethod yJ5_append_a1634 ∈ lw_all := lw_all_in (List.mem_of_getElem? (i := 1327) (by decide +kernel)) rfl
theorem k_1328 : Cond.code yJ5_append_a1634 cJ5_append_a1634 3 (some (.object "java/lang/AbstractStringBuilder")) ∈ lw_all := lw_all_in (List.mem_of_getElem? (i := 1328) (by decide +kernel)) rfl
theorem k_1329 : Cond.methodLink RJ5 239 yJ5_appendChars_0ad70 ∈ lw_all := lw_all_in (List.mem_of_getElem? (i := 1329) (by decide +kernel)) rfl
theorem k_1331 : Cond.instanceMethod yJ5_appendChars_0ad70 ∈ lw_all := lw_all_in (List.mem_of_getElem? (i := 1331) (by decide +kernel)) rfl
theorem k_1332 : Cond.code yJ5_appendChars_0ad70 cJ5_appendChars_0ad70 9 none ∈ lw_all := lw_all_in (List.mem_of_getElem? (i := 1332) (by decide +kernel)) rfl
theorem k_1333 : Cond.methodLink RJ5 386 yJ2_putCharsSB_03870 ∈ lw_all := lw_all_in (List.mem_of_getElem? (i := 1333) (by decide +kernel)) rfl
theorem k_1334 : Cond.static yJ2_putCharsSB_03870 ∈ lw_all := lw_all_in (List.mem_of_getElem? (i := 1334) (by decide +kernel)) rfl
theorem k_1335 : Cond.code yJ2_putCharsSB_03870 cJ2_putCharsSB_03870 5 none ∈ lw_all := lw_all_in (List.mem_of_getElem? (i := 1335) (by decide +kernel)) rfl
theorem k_1336 : Cond.methodLink RJ2 384 yJ2_putChars_03870 ∈ lw_all := lw_all_in (List.mem_of_getElem? (i := 1336) (by decide +kernel)) rfl
theorem k_1337 : Cond.static yJ2_putChars_03870 ∈ lw_all := lw_all_in (List.mem_of_getElem? (i := 1337) (by decide +kernel)) rfl
theorem k_1338 : Cond.code yJ2_putChars_03870 cJ2_putChars_03870 5 none ∈ lw_all := lw_all_in (List.mem_of_getElem? (i := 1338) (by decide +kernel)) rfl
theorem k_1339 : Cond.classLink RJx40b00 52 RJxe8eeb ∈ lw_all := lw_all_in (List.mem_of_getElem? (i := 1339) (by decide +kernel)) rfl
theorem k_1340 : Cond.methodLink RJx40b00 54 yJxe8eeb_append_b568b ∈ lw_all := lw_all_in (List.mem_of_getElem? (i := 1340) (by decide +kernel)) rfl
theorem k_1341 : Cond.instanceMethod yJxe8eeb_append_b568b ∈ lw_all := lw_all_in (List.mem_of_getElem? (i := 1341) (by decide +kernel)) rfl
theorem k_1342 : Cond.selects RJxe8eeb yJxe8eeb_append_b568b yJxe8eeb_append_b568b ∈ lw_all := lw_all_in (List.mem_of_getElem? (i := 1342) (by decide +kernel)) rfl
theorem k_1344 : Cond.methodLink RJxe8eeb 89 yJ5_append_a1634 ∈ lw_all := lw_all_in (List.mem_of_getElem? (i := 1344) (by decide +kernel)) rfl
theorem k_1347 : Cond.methodLink RJx40b00 57 ⟨"java/lang/Appendable", "append", "(C)Ljava/lang/Appendable;"⟩ ∈ lw_all := lw_all_in (List.mem_of_getElem? (i := 1347) (by decide +kernel)) rfl
theorem k_1351 : Cond.selects RJ4 ⟨"java/lang/Appendable", "append", "(C)Ljava/lang/Appendable;"⟩ yJ4_append_b3078 ∈ lw_all := lw_all_in (List.mem_of_getElem? (i := 1351) (by decide +kernel)) rfl
theorem k_1353 : Cond.instanceMethod yJ4_append_b3078 ∈ lw_all := lw_all_in (List.mem_of_getElem? (i := 1353) (by decide +kernel)) rfl
theorem k_1355 : Cond.code yJ4_append_b3078 cJ4_append_b3078 2 (some (.object "java/lang/Appendable")) ∈ lw_all := lw_all_in (List.mem_of_getElem? (i := 1355) (by decide +kernel)) rfl
theorem k_1356 : Cond.methodLink RJ4 284 yJ4_append_cf468 ∈ lw_all := lw_all_in (List.mem_of_getElem? (i := 1356) (by decide +kernel)) rfl
theorem k_1359 : Cond.methodLink RJx40b00 62 ⟨"java/lang/Appendable", "append", "(Ljava/lang/CharSequence;)Ljava/lang/Appendable;"⟩ ∈ lw_all := lw_all_in (List.mem_of_getElem? (i := 1359) (by decide +kernel)) rfl
theorem k_1362 : Cond.selects RJ4 ⟨"java/lang/Appendable", "append", "(Ljava/lang/CharSequence;)Ljava/lang/Appendable;"⟩ yJ4_append_996db ∈ lw_all := lw_all_in (List.mem_of_getElem? (i := 1362) (by decide +kernel)) rfl
theorem k_1364 : Cond.instanceMethod yJ4_append_996db ∈ lw_all := lw_all_in (List.mem_of_getElem? (i := 1364) (by decide +kernel)) rfl
theorem k_1366 : Cond.code yJ4_append_996db cJ4_append_996db 2 (some (.object "java/lang/Appendable")) ∈ lw_all := lw_all_in (List.mem_of_getElem? (i := 1366) (by decide +kernel)) rfl
theorem k_1367 : Cond.methodLink RJ4 299 yJ4_append_1fab5 ∈ lw_all := lw_all_in (List.mem_of_getElem? (i := 1367) (by decide +kernel)) rfl
theorem k_1368 : Cond.instanceMethod yJ4_append_1fab5 ∈ lw_all := lw_all_in (List.mem_of_getElem? (i := 1368) (by decide +kernel)) rfl
theorem k_1369 : Cond.selects RJ4 yJ4_append_1fab5 yJ4_append_1fab5 ∈ lw_all := lw_all_in (List.mem_of_getElem? (i := 1369) (by decide +kernel)) rfl
theorem k_1370 : Cond.code yJ4_append_1fab5 cJ4_append_1fab5 2 (some (.object "java/lang/StringBuilder")) ∈ lw_all := lw_all_in (List.mem_of_getElem? (i := 1370) (by decide +kernel)) rfl
theorem k_1371 : Cond.methodLink RJ4 35 yJ5_append_8f9a3 ∈ lw_all := lw_all_in (List.mem_of_getElem? (i := 1371) (by decide +kernel)) rfl
theorem k_1372 : Cond.instanceMethod yJ5_append_8f9a3 ∈ lw_all := lw_all_in (List.mem_of_getElem? (i := 1372) (by decide +kernel)) rfl
theorem k_1373 : Cond.code yJ5_append_8f9a3 cJ5_append_8f9a3 2 (some (.object "java/lang/AbstractStringBuilder")) ∈ lw_all := lw_all_in (List.mem_of_getElem? (i := 1373) (by decide +kernel)) rfl
theorem k_1374 : Cond.methodLink RJ5 204 yJ5_appendNull_278bc ∈ lw_all := lw_all_in (List.mem_of_getElem? (i := 1374) (by decide +kernel)) rfl
theorem k_1376 : Cond.instanceMethod yJ5_appendNull_278bc ∈ lw_all := lw_all_in (List.mem_of_getElem? (i := 1376) (by decide +kernel)) rfl
theorem k_1377 : Cond.code yJ5_appendNull_278bc cJ5_appendNull_278bc 3 (some (.object "java/lang/AbstractStringBuilder")) ∈ lw_all := lw_all_in (List.mem_of_getElem? (i := 1377) (by decide +kernel)) rfl
theorem k_1378 : Cond.methodLink RJ5 226 yJ2_putCharsAt_cd4e5 ∈ lw_all := lw_all_in (List.mem_of_getElem? (i := 1378) (by decide +kernel)) rfl
theorem k_1379 : Cond.static yJ2_putCharsAt_cd4e5 ∈ lw_all := lw_all_in (List.mem_of_getElem? (i := 1379) (by decide +kernel)) rfl
theorem k_1380 : Cond.code yJ2_putCharsAt_cd4e5 cJ2_putCharsAt_cd4e5 7 (some .int) ∈ lw_all := lw_all_in (List.mem_of_getElem? (i := 1380) (by decide +kernel)) rfl
theorem k_1381 : Cond.classLink RJ5 1 RJ0 ∈ lw_all := lw_all_in (List.mem_of_getElem? (i := 1381) (by decide +kernel)) rfl
theorem k_1382 : Cond.methodLink RJ5 43 yJ5_append_cf1ce ∈ lw_all := lw_all_in (List.mem_of_getElem? (i := 1382) (by decide +kernel)) rfl
theorem k_1383 : Cond.instanceMethod yJ5_append_cf1ce ∈ lw_all := lw_all_in (List.mem_of_getElem? (i := 1383) (by decide +kernel)) rfl
theorem k_1384 : Cond.sameMethod RJ5 RJ5 "append" "(Ljava/lang/String;)Ljava/lang/AbstractStringBuilder;" ∈ lw_all := lw_all_in (List.mem_of_getElem? (i := 1384) (by decide +kernel)) rfl
theorem k_1385 : Cond.selects RJ4 yJ5_append_cf1ce yJ4_append_cf1ce ∈ lw_all := lw_all_in (List.mem_of_getElem? (i := 1385) (by decide +kernel)) rfl
theorem k_1386 : Cond.instanceMethod yJ4_append_cf1ce ∈ lw_all := lw_all_in (List.mem_of_getElem? (i := 1386) (by decide +kernel)) rfl
theorem k_1387 : Cond.code yJ4_append_cf1ce cJ4_append_cf1ce 2 (some (.object "java/lang/AbstractStringBuilder")) ∈ lw_all := lw_all_in (List.mem_of_getElem? (i := 1387) (by decide +kernel)) rfl
theorem k_1388 : Cond.methodLink RJ4 23 yJ4_append_15ec4 ∈ lw_all := lw_all_in (List.mem_of_getElem? (i := 1388) (by decide +kernel)) rfl
theorem k_1389 : Cond.instanceMethod yJ4_append_15ec4 ∈ lw_all := lw_all_in (List.mem_of_getElem? (i := 1389) (by decide +kernel)) rfl
theorem k_1390 : Cond.selects RJ4 yJ4_append_15ec4 yJ4_append_15ec4 ∈ lw_all := lw_all_in (List.mem_of_getElem? (i := 1390) (by decide +kernel)) rfl
theorem k_1391 : Cond.code yJ4_append_15ec4 cJ4_append_15ec4 2 (some (.object "java/lang/StringBuilder")) ∈ lw_all := lw_all_in (List.mem_of_getElem? (i := 1391) (by decide +kernel)) rfl
theorem k_1392 : Cond.methodLink RJ4 29 yJ5_append_cf1ce ∈ lw_all := lw_all_in (List.mem_of_getElem? (i := 1392) (by decide +kernel)) rfl
theorem k_1393 : Cond.code yJ5_append_cf1ce cJ5_append_cf1ce 3 (some (.object "java/lang/AbstractStringBuilder")) ∈ lw_all := lw_all_in (List.mem_of_getElem? (i := 1393) (by decide +kernel)) rfl
theorem k_1394 : Cond.methodLink RJ5 32 yJ0_length_8abf5 ∈ lw_all := lw_all_in (List.mem_of_getElem? (i := 1394) (by decide +kernel)) rfl
theorem k_1395 : Cond.instanceMethod yJ0_length_8abf5 ∈ lw_all := lw_all_in (List.mem_of_getElem? (i := 1395) (by decide +kernel)) rfl
theorem k_1396 : Cond.selects RJ0 yJ0_length_8abf5 yJ0_length_8abf5 ∈ lw_all := lw_all_in (List.mem_of_getElem? (i := 1396) (by decide +kernel)) rfl
theorem k_1397 : Cond.code yJ0_length_8abf5 cJ0_length_8abf5 1 (some .int) ∈ lw_all := lw_all_in (List.mem_of_getElem? (i := 1397) (by decide +kernel)) rfl
theorem k_1398 : Cond.methodLink RJ0 335 yJ0_coder_7d493 ∈ lw_all := lw_all_in (List.mem_of_getElem? (i := 1398) (by decide +kernel)) rfl
theorem k_1399 : Cond.instanceMethod yJ0_coder_7d493 ∈ lw_all := lw_all_in (List.mem_of_getElem? (i := 1399) (by decide +kernel)) rfl
theorem k_1400 : Cond.selects RJ0 yJ0_coder_7d493 yJ0_coder_7d493 ∈ lw_all := lw_all_in (List.mem_of_getElem? (i := 1400) (by decide +kernel)) rfl
theorem k_1401 : Cond.code yJ0_coder_7d493 cJ0_coder_7d493 1 (some .byte) ∈ lw_all := lw_all_in (List.mem_of_getElem? (i := 1401) (by decide +kernel)) rfl
theorem k_1402 : Cond.fieldLink RJ0 38 "java/lang/String" "COMPACT_STRINGS" "Z" ∈ lw_all := lw_all_in (List.mem_of_getElem? (i := 1402) (by decide +kernel)) rfl
theorem k_1403 : Cond.methodLink RJ5 208 yJ5_putStringAt_47b60 ∈ lw_all := lw_all_in (List.mem_of_getElem? (i := 1403) (by decide +kernel)) rfl
theorem k_1405 : Cond.instanceMethod yJ5_putStringAt_47b60 ∈ lw_all := lw_all_in (List.mem_of_getElem? (i := 1405) (by decide +kernel)) rfl
theorem k_1406 : Cond.code yJ5_putStringAt_47b60 cJ5_putStringAt_47b60 3 none ∈ lw_all := lw_all_in (List.mem_of_getElem? (i := 1406) (by decide +kernel)) rfl
theorem k_1407 : Cond.methodLink RJ5 397 yJ5_inflateIfNeededFor_a7421 ∈ lw_all := lw_all_in (List.mem_of_getElem? (i := 1407) (by decide +kernel)) rfl
theorem k_1409 : Cond.instanceMethod yJ5_inflateIfNeededFor_a7421 ∈ lw_all := lw_all_in (List.mem_of_getElem? (i := 1409) (by decide +kernel)) rfl
theorem k_1410 : Cond.code yJ5_inflateIfNeededFor_a7421 cJ5_inflateIfNeededFor_a7421 2 none ∈ lw_all := lw_all_in (List.mem_of_getElem? (i := 1410) (by decide +kernel)) rfl
theorem k_1411 : Cond.methodLink RJ5 40 yJ0_coder_7d493 ∈ lw_all := lw_all_in (List.mem_of_getElem? (i := 1411) (by decide +kernel)) rfl
theorem k_1412 : Cond.methodLink RJ5 399 yJ0_getBytes_840e7 ∈ lw_all := lw_all_in (List.mem_of_getElem? (i := 1412) (by decide +kernel)) rfl
theorem k_1413 : Cond.instanceMethod yJ0_getBytes_840e7 ∈ lw_all := lw_all_in (List.mem_of_getElem? (i := 1413) (by decide +kernel)) rfl
theorem k_1414 : Cond.selects RJ0 yJ0_getBytes_840e7 yJ0_getBytes_840e7 ∈ lw_all := lw_all_in (List.mem_of_getElem? (i := 1414) (by decide +kernel)) rfl
theorem k_1415 : Cond.code yJ0_getBytes_840e7 cJ0_getBytes_840e7 4 none ∈ lw_all := lw_all_in (List.mem_of_getElem? (i := 1415) (by decide +kernel)) rfl
theorem k_1416 : Cond.methodLink RJ0 212 arraycopyName ∈ lw_all := lw_all_in (List.mem_of_getElem? (i := 1416) (by decide +kernel)) rfl
theorem k_1417 : Cond.methodLink RJ0 106 yJ1_inflate_0e8fd ∈ lw_all := lw_all_in (List.mem_of_getElem? (i := 1417) (by decide +kernel)) rfl
theorem k_1418 : Cond.classLink RJ5 10 RJ5 ∈ lw_all := lw_all_in (List.mem_of_getElem? (i := 1418) (by decide +kernel)) rfl
theorem k_1419 : Cond.methodLink RJ5 212 yJ5_append_2ceeb ∈ lw_all := lw_all_in (List.mem_of_getElem? (i := 1419) (by decide +kernel)) rfl
theorem k_1420 : Cond.instanceMethod yJ5_append_2ceeb ∈ lw_all := lw_all_in (List.mem_of_getElem? (i := 1420) (by decide +kernel)) rfl
theorem k_1421 : Cond.sameMethod RJ5 RJ5 "append" "(Ljava/lang/AbstractStringBuilder;)Ljava/lang/AbstractStringBuilder;" ∈ lw_all := lw_all_in (List.mem_of_getElem? (i := 1421) (by decide +kernel)) rfl
theorem k_1422 : Cond.selects RJ4 yJ5_append_2ceeb yJ5_append_2ceeb ∈ lw_all := lw_all_in (List.mem_of_getElem? (i := 1422) (by decide +kernel)) rfl
theorem k_1423 : Cond.code yJ5_append_2ceeb cJ5_append_2ceeb 3 (some (.object "java/lang/AbstractStringBuilder")) ∈ lw_all := lw_all_in (List.mem_of_getElem? (i := 1423) (by decide +kernel)) rfl
theorem k_1424 : Cond.methodLink RJ5 160 yJ5_length_8abf5 ∈ lw_all := lw_all_in (List.mem_of_getElem? (i := 1424) (by decide +kernel)) rfl
theorem k_1425 : Cond.instanceMethod yJ5_length_8abf5 ∈ lw_all := lw_all_in (List.mem_of_getElem? (i := 1425) (by decide +kernel)) rfl
theorem k_1426 : Cond.sameMethod RJ5 RJ5 "length" "()I" ∈ lw_all := lw_all_in (List.mem_of_getElem? (i := 1426) (by decide +kernel)) rfl
theorem k_1427 : Cond.selects RJ4 yJ5_length_8abf5 yJ4_length_8abf5 ∈ lw_all := lw_all_in (List.mem_of_getElem? (i := 1427) (by decide +kernel)) rfl
theorem k_1428 : Cond.instanceMethod yJ4_length_8abf5 ∈ lw_all := lw_all_in (List.mem_of_getElem? (i := 1428) (by decide +kernel)) rfl
theorem k_1429 : Cond.code yJ4_length_8abf5 cJ4_length_8abf5 1 (some .int) ∈ lw_all := lw_all_in (List.mem_of_getElem? (i := 1429) (by decide +kernel)) rfl
theorem k_1430 : Cond.methodLink RJ4 343 yJ5_length_8abf5 ∈ lw_all := lw_all_in (List.mem_of_getElem? (i := 1430) (by decide +kernel)) rfl
theorem k_1431 : Cond.code yJ5_length_8abf5 cJ5_length_8abf5 1 (some .int) ∈ lw_all := lw_all_in (List.mem_of_getElem? (i := 1431) (by decide +kernel)) rfl
theorem k_1432 : Cond.methodLink RJ5 215 yJ5_inflateIfNeededFor_56e69 ∈ lw_all := lw_all_in (List.mem_of_getElem? (i := 1432) (by decide +kernel)) rfl
theorem k_1434 : Cond.instanceMethod yJ5_inflateIfNeededFor_56e69 ∈ lw_all := lw_all_in (List.mem_of_getElem? (i := 1434) (by decide +kernel)) rfl
theorem k_1435 : Cond.code yJ5_inflateIfNeededFor_56e69 cJ5_inflateIfNeededFor_56e69 2 none ∈ lw_all := lw_all_in (List.mem_of_getElem? (i := 1435) (by decide +kernel)) rfl
theorem k_1436 : Cond.methodLink RJ5 70 yJ5_getCoder_7d493 ∈ lw_all := lw_all_in (List.mem_of_getElem? (i := 1436) (by decide +kernel)) rfl
theorem k_1437 : Cond.instanceMethod yJ5_getCoder_7d493 ∈ lw_all := lw_all_in (List.mem_of_getElem? (i := 1437) (by decide +kernel)) rfl
theorem k_1438 : Cond.sameMethod RJ5 RJ5 "getCoder" "()B" ∈ lw_all := lw_all_in (List.mem_of_getElem? (i := 1438) (by decide +kernel)) rfl
theorem k_1439 : Cond.selects RJ4 yJ5_getCoder_7d493 yJ5_getCoder_7d493 ∈ lw_all := lw_all_in (List.mem_of_getElem? (i := 1439) (by decide +kernel)) rfl
theorem k_1440 : Cond.code yJ5_getCoder_7d493 cJ5_getCoder_7d493 1 (some .byte) ∈ lw_all := lw_all_in (List.mem_of_getElem? (i := 1440) (by decide +kernel)) rfl
theorem k_1441 : Cond.methodLink RJ5 219 yJ5_getBytes_840e7 ∈ lw_all := lw_all_in (List.mem_of_getElem? (i := 1441) (by decide +kernel)) rfl
theorem k_1442 : Cond.instanceMethod yJ5_getBytes_840e7 ∈ lw_all := lw_all_in (List.mem_of_getElem? (i := 1442) (by decide +kernel)) rfl
theorem k_1443 : Cond.sameMethod RJ5 RJ5 "getBytes" "([BIB)V" ∈ lw_all := lw_all_in (List.mem_of_getElem? (i := 1443) (by decide +kernel)) rfl
theorem k_1444 : Cond.selects RJ4 yJ5_getBytes_840e7 yJ5_getBytes_840e7 ∈ lw_all := lw_all_in (List.mem_of_getElem? (i := 1444) (by decide +kernel)) rfl
theorem k_1445 : Cond.code yJ5_getBytes_840e7 cJ5_getBytes_840e7 4 none ∈ lw_all := lw_all_in (List.mem_of_getElem? (i := 1445) (by decide +kernel)) rfl
theorem k_1446 : Cond.methodLink RJ5 309 arraycopyName ∈ lw_all := lw_all_in (List.mem_of_getElem? (i := 1446) (by decide +kernel)) rfl
theorem k_1448 : Cond.methodLink RJ5 47 ⟨"java/lang/CharSequence", "length", "()I"⟩ ∈ lw_all := lw_all_in (List.mem_of_getElem? (i := 1448) (by decide +kernel)) rfl
theorem k_1452 : Cond.selects RJ0 ⟨"java/lang/CharSequence", "length", "()I"⟩ yJ0_length_8abf5 ∈ lw_all := lw_all_in (List.mem_of_getElem? (i := 1452) (by decide +kernel)) rfl
theorem k_1456 : Cond.selects RJ4 ⟨"java/lang/CharSequence", "length", "()I"⟩ yJ4_length_8abf5 ∈ lw_all := lw_all_in (List.mem_of_getElem? (i := 1456) (by decide +kernel)) rfl
theorem k_1459 : Cond.methodLink RJ5 223 yJ5_append_e1f22 ∈ lw_all := lw_all_in (List.mem_of_getElem? (i := 1459) (by decide +kernel)) rfl
theorem k_1460 : Cond.instanceMethod yJ5_append_e1f22 ∈ lw_all := lw_all_in (List.mem_of_getElem? (i := 1460) (by decide +kernel)) rfl
theorem k_1461 : Cond.sameMethod RJ5 RJ5 "append" "(Ljava/lang/CharSequence;II)Ljava/lang/AbstractStringBuilder;" ∈ lw_all := lw_all_in (List.mem_of_getElem? (i := 1461) (by decide +kernel)) rfl
theorem k_1462 : Cond.selects RJ4 yJ5_append_e1f22 yJ4_append_e1f22 ∈ lw_all := lw_all_in (List.mem_of_getElem? (i := 1462) (by decide +kernel)) rfl
theorem k_1463 : Cond.instanceMethod yJ4_append_e1f22 ∈ lw_all := lw_all_in (List.mem_of_getElem? (i := 1463) (by decide +kernel)) rfl
theorem k_1464 : Cond.code yJ4_append_e1f22 cJ4_append_e1f22 4 (some (.object "java/lang/AbstractStringBuilder")) ∈ lw_all := lw_all_in (List.mem_of_getElem? (i := 1464) (by decide +kernel)) rfl
theorem k_1465 : Cond.methodLink RJ4 296 yJ4_append_69d29 ∈ lw_all := lw_all_in (List.mem_of_getElem? (i := 1465) (by decide +kernel)) rfl
theorem k_1466 : Cond.instanceMethod yJ4_append_69d29 ∈ lw_all := lw_all_in (List.mem_of_getElem? (i := 1466) (by decide +kernel)) rfl
theorem k_1467 : Cond.selects RJ4 yJ4_append_69d29 yJ4_append_69d29 ∈ lw_all := lw_all_in (List.mem_of_getElem? (i := 1467) (by decide +kernel)) rfl
theorem k_1468 : Cond.code yJ4_append_69d29 cJ4_append_69d29 4 (some (.object "java/lang/StringBuilder")) ∈ lw_all := lw_all_in (List.mem_of_getElem? (i := 1468) (by decide +kernel)) rfl
theorem k_1469 : Cond.methodLink RJ4 38 yJ5_append_e1f22 ∈ lw_all := lw_all_in (List.mem_of_getElem? (i := 1469) (by decide +kernel)) rfl
theorem k_1470 : Cond.code yJ5_append_e1f22 cJ5_append_e1f22 5 (some (.object "java/lang/AbstractStringBuilder")) ∈ lw_all := lw_all_in (List.mem_of_getElem? (i := 1470) (by decide +kernel)) rfl
theorem k_1472 : Cond.fieldLink RJ5 183 "jdk/internal/util/Preconditions" "IOOBE_FORMATTER" "Ljava/util/function/BiFunction;" ∈ lw_all := lw_all_in (List.mem_of_getElem? (i := 1472) (by decide +kernel)) rfl
theorem k_1474 : Cond.methodLink RJ5 161 yJ3_checkFromToIndex_8c36e ∈ lw_all := lw_all_in (List.mem_of_getElem? (i := 1474) (by decide +kernel)) rfl
theorem k_1475 : Cond.methodLink RJ5 232 yJ5_appendChars_3135b ∈ lw_all := lw_all_in (List.mem_of_getElem? (i := 1475) (by decide +kernel)) rfl
theorem k_1477 : Cond.instanceMethod yJ5_appendChars_3135b ∈ lw_all := lw_all_in (List.mem_of_getElem? (i := 1477) (by decide +kernel)) rfl
theorem k_1478 : Cond.code yJ5_appendChars_3135b cJ5_appendChars_3135b 8 none ∈ lw_all := lw_all_in (List.mem_of_getElem? (i := 1478) (by decide +kernel)) rfl
theorem k_1479 : Cond.methodLink RJ5 400 yJ0_isLatin1_aae02 ∈ lw_all := lw_all_in (List.mem_of_getElem? (i := 1479) (by decide +kernel)) rfl
theorem k_1480 : Cond.instanceMethod yJ0_isLatin1_aae02 ∈ lw_all := lw_all_in (List.mem_of_getElem? (i := 1480) (by decide +kernel)) rfl
theorem k_1481 : Cond.selects RJ0 yJ0_isLatin1_aae02 yJ0_isLatin1_aae02 ∈ lw_all := lw_all_in (List.mem_of_getElem? (i := 1481) (by decide +kernel)) rfl
theorem k_1482 : Cond.code yJ0_isLatin1_aae02 cJ0_isLatin1_aae02 1 (some .boolean) ∈ lw_all := lw_all_in (List.mem_of_getElem? (i := 1482) (by decide +kernel)) rfl
theorem k_1483 : Cond.methodLink RJ5 401 yJ0_value_6d5f1 ∈ lw_all := lw_all_in (List.mem_of_getElem? (i := 1483) (by decide +kernel)) rfl
theorem k_1484 : Cond.instanceMethod yJ0_value_6d5f1 ∈ lw_all := lw_all_in (List.mem_of_getElem? (i := 1484) (by decide +kernel)) rfl
theorem k_1485 : Cond.selects RJ0 yJ0_value_6d5f1 yJ0_value_6d5f1 ∈ lw_all := lw_all_in (List.mem_of_getElem? (i := 1485) (by decide +kernel)) rfl
theorem k_1486 : Cond.code yJ0_value_6d5f1 cJ0_value_6d5f1 1 (some (.array .byte)) ∈ lw_all := lw_all_in (List.mem_of_getElem? (i := 1486) (by decide +kernel)) rfl
theorem k_1487 : Cond.methodLink RJ5 404 yJ0_charAt_5068e ∈ lw_all := lw_all_in (List.mem_of_getElem? (i := 1487) (by decide +kernel)) rfl
theorem k_1488 : Cond.instanceMethod yJ0_charAt_5068e ∈ lw_all := lw_all_in (List.mem_of_getElem? (i := 1488) (by decide +kernel)) rfl
theorem k_1489 : Cond.selects RJ0 yJ0_charAt_5068e yJ0_charAt_5068e ∈ lw_all := lw_all_in (List.mem_of_getElem? (i := 1489) (by decide +kernel)) rfl
theorem k_1490 : Cond.code yJ0_charAt_5068e cJ0_charAt_5068e 2 (some .char) ∈ lw_all := lw_all_in (List.mem_of_getElem? (i := 1490) (by decide +kernel)) rfl
theorem k_1491 : Cond.methodLink RJ0 492 yJ0_isLatin1_aae02 ∈ lw_all := lw_all_in (List.mem_of_getElem? (i := 1491) (by decide +kernel)) rfl
theorem k_1492 : Cond.methodLink RJ0 495 yJ1_charAt_3b067 ∈ lw_all := lw_all_in (List.mem_of_getElem? (i := 1492) (by decide +kernel)) rfl
theorem k_1493 : Cond.static yJ1_charAt_3b067 ∈ lw_all := lw_all_in (List.mem_of_getElem? (i := 1493) (by decide +kernel)) rfl
theorem k_1494 : Cond.code yJ1_charAt_3b067 cJ1_charAt_3b067 2 (some .char) ∈ lw_all := lw_all_in (List.mem_of_getElem? (i := 1494) (by decide +kernel)) rfl
theorem k_1495 : Cond.methodLink RJ1 9 yJ0_checkIndex_df160 ∈ lw_all := lw_all_in (List.mem_of_getElem? (i := 1495) (by decide +kernel)) rfl
theorem k_1496 : Cond.methodLink RJ0 498 yJ2_charAt_3b067 ∈ lw_all := lw_all_in (List.mem_of_getElem? (i := 1496) (by decide +kernel)) rfl
theorem k_1497 : Cond.static yJ2_charAt_3b067 ∈ lw_all := lw_all_in (List.mem_of_getElem? (i := 1497) (by decide +kernel)) rfl
theorem k_1498 : Cond.code yJ2_charAt_3b067 cJ2_charAt_3b067 2 (some .char) ∈ lw_all := lw_all_in (List.mem_of_getElem? (i := 1498) (by decide +kernel)) rfl
theorem k_1499 : Cond.methodLink RJ2 71 yJ2_getChar_3b067 ∈ lw_all := lw_all_in (List.mem_of_getElem? (i := 1499) (by decide +kernel)) rfl
theorem k_1500 : Cond.static yJ2_getChar_3b067 ∈ lw_all := lw_all_in (List.mem_of_getElem? (i := 1500) (by decide +kernel)) rfl
theorem k_1501 : Cond.code yJ2_getChar_3b067 cJ2_getChar_3b067 2 (some .char) ∈ lw_all := lw_all_in (List.mem_of_getElem? (i := 1501) (by decide +kernel)) rfl
theorem k_1502 : Cond.methodLink RJ5 394 yJ2_putCharsSB_8fd6a ∈ lw_all := lw_all_in (List.mem_of_getElem? (i := 1502) (by decide +kernel)) rfl
theorem k_1503 : Cond.static yJ2_putCharsSB_8fd6a ∈ lw_all := lw_all_in (List.mem_of_getElem? (i := 1503) (by decide +kernel)) rfl
theorem k_1504 : Cond.code yJ2_putCharsSB_8fd6a cJ2_putCharsSB_8fd6a 6 none ∈ lw_all := lw_all_in (List.mem_of_getElem? (i := 1504) (by decide +kernel)) rfl
theorem k_1506 : Cond.methodLink RJ2 388 ⟨"java/lang/CharSequence", "charAt", "(I)C"⟩ ∈ lw_all := lw_all_in (List.mem_of_getElem? (i := 1506) (by decide +kernel)) rfl
theorem k_1509 : Cond.selects RJ0 ⟨"java/lang/CharSequence", "charAt", "(I)C"⟩ yJ0_charAt_5068e ∈ lw_all := lw_all_in (List.mem_of_getElem? (i := 1509) (by decide +kernel)) rfl
theorem k_1512 : Cond.selects RJ4 ⟨"java/lang/CharSequence", "charAt", "(I)C"⟩ yJ4_charAt_5068e ∈ lw_all := lw_all_in (List.mem_of_getElem? (i := 1512) (by decide +kernel)) rfl
theorem k_1514 : Cond.instanceMethod yJ4_charAt_5068e ∈ lw_all := lw_all_in (List.mem_of_getElem? (i := 1514) (by decide +kernel)) rfl
theorem k_1516 : Cond.code yJ4_charAt_5068e cJ4_charAt_5068e 2 (some .char) ∈ lw_all := lw_all_in (List.mem_of_getElem? (i := 1516) (by decide +kernel)) rfl
theorem k_1517 : Cond.methodLink RJ4 329 yJ5_charAt_5068e ∈ lw_all := lw_all_in (List.mem_of_getElem? (i := 1517) (by decide +kernel)) rfl
theorem k_1518 : Cond.instanceMethod yJ5_charAt_5068e ∈ lw_all := lw_all_in (List.mem_of_getElem? (i := 1518) (by decide +kernel)) rfl
theorem k_1519 : Cond.code yJ5_charAt_5068e cJ5_charAt_5068e 5 (some .char) ∈ lw_all := lw_all_in (List.mem_of_getElem? (i := 1519) (by decide +kernel)) rfl
theorem k_1520 : Cond.methodLink RJ5 138 Lib.Math.min.name ∈ lw_all := lw_all_in (List.mem_of_getElem? (i := 1520) (by decide +kernel)) rfl
theorem k_1521 : Cond.methodLink RJ5 144 yJ0_checkIndex_df160 ∈ lw_all := lw_all_in (List.mem_of_getElem? (i := 1521) (by decide +kernel)) rfl
theorem k_1522 : Cond.methodLink RJ5 148 yJ2_getChar_3b067 ∈ lw_all := lw_all_in (List.mem_of_getElem? (i := 1522) (by decide +kernel)) rfl
theorem k_1523 : Cond.methodLink RJ5 236 yJ5_appendChars_a91ff ∈ lw_all := lw_all_in (List.mem_of_getElem? (i := 1523) (by decide +kernel)) rfl
theorem k_1525 : Cond.instanceMethod yJ5_appendChars_a91ff ∈ lw_all := lw_all_in (List.mem_of_getElem? (i := 1525) (by decide +kernel)) rfl
theorem k_1526 : Cond.code yJ5_appendChars_a91ff cJ5_appendChars_a91ff 8 none ∈ lw_all := lw_all_in (List.mem_of_getElem? (i := 1526) (by decide +kernel)) rfl
theorem k_1528 : Cond.methodLink RJ5 390 ⟨"java/lang/CharSequence", "charAt", "(I)C"⟩ ∈ lw_all := lw_all_in (List.mem_of_getElem? (i := 1528) (by decide +kernel)) rfl
theorem k_1533 : Cond.methodLink RL 199 yL_markAt ∈ lw_all := lw_all_in (List.mem_of_getElem? (i := 1533) (by decide +kernel)) rfl
theorem k_1534 : Cond.static yL_markAt ∈ lw_all := lw_all_in (List.mem_of_getElem? (i := 1534) (by decide +kernel)) rfl
theorem k_1536 : Cond.methodLink RL 93 yX8_markAt ∈ lw_all := lw_all_in (List.mem_of_getElem? (i := 1536) (by decide +kernel)) rfl
theorem k_1537 : Cond.instanceMethod yX8_markAt ∈ lw_all := lw_all_in (List.mem_of_getElem? (i := 1537) (by decide +kernel)) rfl
theorem k_1538 : Cond.selects RX8 yX8_markAt yX8_markAt ∈ lw_all := lw_all_in (List.mem_of_getElem? (i := 1538) (by decide +kernel)) rfl
theorem k_1539 : Cond.code yX8_markAt cX8_markAt 2 (some .int) ∈ lw_all := lw_all_in (List.mem_of_getElem? (i := 1539) (by decide +kernel)) rfl
theorem k_1540 : Cond.methodLink RX8 250 yX5_keptMarks ∈ lw_all := lw_all_in (List.mem_of_getElem? (i := 1540) (by decide +kernel)) rfl
theorem k_1541 : Cond.instanceMethod yX5_keptMarks ∈ lw_all := lw_all_in (List.mem_of_getElem? (i := 1541) (by decide +kernel)) rfl
theorem k_1542 : Cond.selects RX5 yX5_keptMarks yX5_keptMarks ∈ lw_all := lw_all_in (List.mem_of_getElem? (i := 1542) (by decide +kernel)) rfl
theorem k_1543 : Cond.code yX5_keptMarks cX5_keptMarks 1 (some .int) ∈ lw_all := lw_all_in (List.mem_of_getElem? (i := 1543) (by decide +kernel)) rfl
theorem k_1544 : Cond.methodLink RX5 28 Lib.Math.min.name ∈ lw_all := lw_all_in (List.mem_of_getElem? (i := 1544) (by decide +kernel)) rfl
theorem k_1546 : Cond.methodLink RX8 255 yX5_markOfRank ∈ lw_all := lw_all_in (List.mem_of_getElem? (i := 1546) (by decide +kernel)) rfl
theorem k_1547 : Cond.instanceMethod yX5_markOfRank ∈ lw_all := lw_all_in (List.mem_of_getElem? (i := 1547) (by decide +kernel)) rfl
theorem k_1548 : Cond.selects RX5 yX5_markOfRank yX5_markOfRank ∈ lw_all := lw_all_in (List.mem_of_getElem? (i := 1548) (by decide +kernel)) rfl
theorem k_1549 : Cond.code yX5_markOfRank cX5_markOfRank 2 (some .int) ∈ lw_all := lw_all_in (List.mem_of_getElem? (i := 1549) (by decide +kernel)) rfl
theorem k_1550 : Cond.methodLink RL 211 yJ4_toString_0e30d ∈ lw_all := lw_all_in (List.mem_of_getElem? (i := 1550) (by decide +kernel)) rfl
theorem k_1551 : Cond.instanceMethod yJ4_toString_0e30d ∈ lw_all := lw_all_in (List.mem_of_getElem? (i := 1551) (by decide +kernel)) rfl
theorem k_1552 : Cond.selects RJ4 yJ4_toString_0e30d yJ4_toString_0e30d ∈ lw_all := lw_all_in (List.mem_of_getElem? (i := 1552) (by decide +kernel)) rfl
theorem k_1553 : Cond.code yJ4_toString_0e30d cJ4_toString_0e30d 1 (some (.object "java/lang/String")) ∈ lw_all := lw_all_in (List.mem_of_getElem? (i := 1553) (by decide +kernel)) rfl
theorem k_1554 : Cond.classLink RJ4 18 RJ0 ∈ lw_all := lw_all_in (List.mem_of_getElem? (i := 1554) (by decide +kernel)) rfl
theorem k_1555 : Cond.methodLink RJ4 137 yJ0_init_81219 ∈ lw_all := lw_all_in (List.mem_of_getElem? (i := 1555) (by decide +kernel)) rfl
theorem k_1556 : Cond.instanceMethod yJ0_init_81219 ∈ lw_all := lw_all_in (List.mem_of_getElem? (i := 1556) (by decide +kernel)) rfl
theorem k_1557 : Cond.code yJ0_init_81219 cJ0_init_81219 2 none ∈ lw_all := lw_all_in (List.mem_of_getElem? (i := 1557) (by decide +kernel)) rfl
theorem k_1558 : Cond.methodLink RJ0 489 yJ0_init_db425 ∈ lw_all := lw_all_in (List.mem_of_getElem? (i := 1558) (by decide +kernel)) rfl
theorem k_1559 : Cond.instanceMethod yJ0_init_db425 ∈ lw_all := lw_all_in (List.mem_of_getElem? (i := 1559) (by decide +kernel)) rfl
theorem k_1560 : Cond.code yJ0_init_db425 cJ0_init_db425 5 none ∈ lw_all := lw_all_in (List.mem_of_getElem? (i := 1560) (by decide +kernel)) rfl
theorem k_1561 : Cond.methodLink RJ0 1 objectInit ∈ lw_all := lw_all_in (List.mem_of_getElem? (i := 1561) (by decide +kernel)) rfl
theorem k_1562 : Cond.methodLink RJ0 552 yJ5_getValue_6d5f1 ∈ lw_all := lw_all_in (List.mem_of_getElem? (i := 1562) (by decide +kernel)) rfl
theorem k_1563 : Cond.instanceMethod yJ5_getValue_6d5f1 ∈ lw_all := lw_all_in (List.mem_of_getElem? (i := 1563) (by decide +kernel)) rfl
theorem k_1564 : Cond.sameMethod RJ5 RJ5 "getValue" "()[B" ∈ lw_all := lw_all_in (List.mem_of_getElem? (i := 1564) (by decide +kernel)) rfl
theorem k_1565 : Cond.selects RJ4 yJ5_getValue_6d5f1 yJ5_getValue_6d5f1 ∈ lw_all := lw_all_in (List.mem_of_getElem? (i := 1565) (by decide +kernel)) rfl
theorem k_1566 : Cond.code yJ5_getValue_6d5f1 cJ5_getValue_6d5f1 1 (some (.array .byte)) ∈ lw_all := lw_all_in (List.mem_of_getElem? (i := 1566) (by decide +kernel)) rfl
theorem k_1567 : Cond.methodLink RJ0 549 yJ5_length_8abf5 ∈ lw_all := lw_all_in (List.mem_of_getElem? (i := 1567) (by decide +kernel)) rfl
theorem k_1568 : Cond.methodLink RJ0 1047 yJ5_isLatin1_aae02 ∈ lw_all := lw_all_in (List.mem_of_getElem? (i := 1568) (by decide +kernel)) rfl
theorem k_1569 : Cond.methodLink RJ0 54 yJ7_copyOfRange_39247 ∈ lw_all := lw_all_in (List.mem_of_getElem? (i := 1569) (by decide +kernel)) rfl
theorem k_1570 : Cond.static yJ7_copyOfRange_39247 ∈ lw_all := lw_all_in (List.mem_of_getElem? (i := 1570) (by decide +kernel)) rfl
theorem k_1571 : Cond.code yJ7_copyOfRange_39247 cJ7_copyOfRange_39247 3 (some (.array .byte)) ∈ lw_all := lw_all_in (List.mem_of_getElem? (i := 1571) (by decide +kernel)) rfl
theorem k_1572 : Cond.methodLink RJ7 339 yJ7_copyOfRangeByte_39247 ∈ lw_all := lw_all_in (List.mem_of_getElem? (i := 1572) (by decide +kernel)) rfl
theorem k_1573 : Cond.static yJ7_copyOfRangeByte_39247 ∈ lw_all := lw_all_in (List.mem_of_getElem? (i := 1573) (by decide +kernel)) rfl
theorem k_1574 : Cond.code yJ7_copyOfRangeByte_39247 cJ7_copyOfRangeByte_39247 5 (some (.array .byte)) ∈ lw_all := lw_all_in (List.mem_of_getElem? (i := 1574) (by decide +kernel)) rfl
theorem k_1575 : Cond.methodLink RJ7 343 yJ7_checkLength_df160 ∈ lw_all := lw_all_in (List.mem_of_getElem? (i := 1575) (by decide +kernel)) rfl
theorem k_1576 : Cond.static yJ7_checkLength_df160 ∈ lw_all := lw_all_in (List.mem_of_getElem? (i := 1576) (by decide +kernel)) rfl
theorem k_1577 : Cond.code yJ7_checkLength_df160 cJ7_checkLength_df160 2 none ∈ lw_all := lw_all_in (List.mem_of_getElem? (i := 1577) (by decide +kernel)) rfl
theorem k_1578 : Cond.classLink RJ7 43 "java/lang/IllegalArgumentException" ∈ lw_all := lw_all_in (List.mem_of_getElem? (i := 1578) (by decide +kernel)) rfl
theorem k_1579 : Cond.classLink RJ7 45 RJ4 ∈ lw_all := lw_all_in (List.mem_of_getElem? (i := 1579) (by decide +kernel)) rfl
theorem k_1580 : Cond.methodLink RJ7 47 yJ4_init_da8c8 ∈ lw_all := lw_all_in (List.mem_of_getElem? (i := 1580) (by decide +kernel)) rfl
theorem k_1581 : Cond.methodLink RJ7 54 yJ4_append_bf812 ∈ lw_all := lw_all_in (List.mem_of_getElem? (i := 1581) (by decide +kernel)) rfl
theorem k_1583 : Cond.methodLink RJ7 50 yJ4_append_15ec4 ∈ lw_all := lw_all_in (List.mem_of_getElem? (i := 1583) (by decide +kernel)) rfl
theorem k_1584 : Cond.methodLink RJ7 61 yJ4_toString_0e30d ∈ lw_all := lw_all_in (List.mem_of_getElem? (i := 1584) (by decide +kernel)) rfl
theorem k_1585 : Cond.methodLink RJ7 65 ⟨"java/lang/IllegalArgumentException", "<init>", "(Ljava/lang/String;)V"⟩ ∈ lw_all := lw_all_in (List.mem_of_getElem? (i := 1585) (by decide +kernel)) rfl
theorem k_1586 : Cond.methodLink RJ0 1051 yJ2_compress_39247 ∈ lw_all := lw_all_in (List.mem_of_getElem? (i := 1586) (by decide +kernel)) rfl
theorem k_1587 : Cond.static yJ2_compress_39247 ∈ lw_all := lw_all_in (List.mem_of_getElem? (i := 1587) (by decide +kernel)) rfl
theorem k_1588 : Cond.code yJ2_compress_39247 cJ2_compress_39247 6 (some (.array .byte)) ∈ lw_all := lw_all_in (List.mem_of_getElem? (i := 1588) (by decide +kernel)) rfl
theorem k_1589 : Cond.methodLink RJ2 123 yJ2_compress_5af95 ∈ lw_all := lw_all_in (List.mem_of_getElem? (i := 1589) (by decide +kernel)) rfl
theorem k_1590 : Cond.static yJ2_compress_5af95 ∈ lw_all := lw_all_in (List.mem_of_getElem? (i := 1590) (by decide +kernel)) rfl
theorem k_1591 : Cond.code yJ2_compress_5af95 cJ2_compress_5af95 7 (some .int) ∈ lw_all := lw_all_in (List.mem_of_getElem? (i := 1591) (by decide +kernel)) rfl
theorem k_1592 : Cond.methodLink RJ2 126 yJ7_copyOfRange_39247 ∈ lw_all := lw_all_in (List.mem_of_getElem? (i := 1592) (by decide +kernel)) rfl
theorem k_1593 : Cond.methodLink RJ0 47 yJ2_coderFromArrayLen_85cad ∈ lw_all := lw_all_in (List.mem_of_getElem? (i := 1593) (by decide +kernel)) rfl
theorem k_1594 : Cond.static yJ2_coderFromArrayLen_85cad ∈ lw_all := lw_all_in (List.mem_of_getElem? (i := 1594) (by decide +kernel)) rfl
theorem k_1595 : Cond.code yJ2_coderFromArrayLen_85cad cJ2_coderFromArrayLen_85cad 2 (some .byte) ∈ lw_all := lw_all_in (List.mem_of_getElem? (i := 1595) (by decide +kernel)) rfl
theorem k_1596 : Cond.fieldLink RJ0 9 "java/lang/String" "value" "[B" ∈ lw_all := lw_all_in (List.mem_of_getElem? (i := 1596) (by decide +kernel)) rfl
theorem k_1597 : Cond.fieldLink RJ0 15 "java/lang/String" "coder" "B" ∈ lw_all := lw_all_in (List.mem_of_getElem? (i := 1597) (by decide +kernel)) rfl
theorem k_1598 : Cond.lays RJ0 "java/lang/String" "hash" "I" ∈ lw_all := lw_all_in (List.mem_of_getElem? (i := 1598) (by decide +kernel)) rfl
theorem k_1600 : Cond.lays RJ0 "java/lang/String" "hashIsZero" "Z" ∈ lw_all := lw_all_in (List.mem_of_getElem? (i := 1600) (by decide +kernel)) rfl
theorem k_1603 : Cond.arrayClass .char ∈ lw_all := lw_all_in (List.mem_of_getElem? (i := 1603) (by decide +kernel)) rfl
theorem k_1604 : Cond.methodLink RL 282 yL_ahead ∈ lw_all := lw_all_in (List.mem_of_getElem? (i := 1604) (by decide +kernel)) rfl
theorem k_1605 : Cond.static yL_ahead ∈ lw_all := lw_all_in (List.mem_of_getElem? (i := 1605) (by decide +kernel)) rfl
theorem k_1606 : Cond.code yL_ahead cL_ahead 10 (some .boolean) ∈ lw_all := lw_all_in (List.mem_of_getElem? (i := 1606) (by decide +kernel)) rfl
theorem k_1607 : Cond.methodLink RL 215 yL_movedAhead ∈ lw_all := lw_all_in (List.mem_of_getElem? (i := 1607) (by decide +kernel)) rfl
theorem k_1608 : Cond.static yL_movedAhead ∈ lw_all := lw_all_in (List.mem_of_getElem? (i := 1608) (by decide +kernel)) rfl
theorem k_1610 : Cond.methodLink RL 33 yX8_movedAhead ∈ lw_all := lw_all_in (List.mem_of_getElem? (i := 1610) (by decide +kernel)) rfl
theorem k_1611 : Cond.instanceMethod yX8_movedAhead ∈ lw_all := lw_all_in (List.mem_of_getElem? (i := 1611) (by decide +kernel)) rfl
theorem k_1612 : Cond.selects RX8 yX8_movedAhead yX8_movedAhead ∈ lw_all := lw_all_in (List.mem_of_getElem? (i := 1612) (by decide +kernel)) rfl
theorem k_1613 : Cond.code yX8_movedAhead cX8_movedAhead 3 (some .int) ∈ lw_all := lw_all_in (List.mem_of_getElem? (i := 1613) (by decide +kernel)) rfl
theorem k_1614 : Cond.methodLink RL 217 yL_total ∈ lw_all := lw_all_in (List.mem_of_getElem? (i := 1614) (by decide +kernel)) rfl
theorem k_1615 : Cond.static yL_total ∈ lw_all := lw_all_in (List.mem_of_getElem? (i := 1615) (by decide +kernel)) rfl
theorem k_1616 : Cond.code yL_total cL_total 3 (some .int) ∈ lw_all := lw_all_in (List.mem_of_getElem? (i := 1616) (by decide +kernel)) rfl
theorem k_1617 : Cond.methodLink RL 220 yL_strokesByBeats ∈ lw_all := lw_all_in (List.mem_of_getElem? (i := 1617) (by decide +kernel)) rfl
theorem k_1618 : Cond.static yL_strokesByBeats ∈ lw_all := lw_all_in (List.mem_of_getElem? (i := 1618) (by decide +kernel)) rfl
theorem k_1620 : Cond.methodLink RL 102 yX8_strokesByBeats ∈ lw_all := lw_all_in (List.mem_of_getElem? (i := 1620) (by decide +kernel)) rfl
theorem k_1621 : Cond.instanceMethod yX8_strokesByBeats ∈ lw_all := lw_all_in (List.mem_of_getElem? (i := 1621) (by decide +kernel)) rfl
theorem k_1622 : Cond.selects RX8 yX8_strokesByBeats yX8_strokesByBeats ∈ lw_all := lw_all_in (List.mem_of_getElem? (i := 1622) (by decide +kernel)) rfl
theorem k_1623 : Cond.code yX8_strokesByBeats cX8_strokesByBeats 2 (some .int) ∈ lw_all := lw_all_in (List.mem_of_getElem? (i := 1623) (by decide +kernel)) rfl
theorem k_1624 : Cond.methodLink RX8 269 yX8_countBySeconds ∈ lw_all := lw_all_in (List.mem_of_getElem? (i := 1624) (by decide +kernel)) rfl
theorem k_1626 : Cond.instanceMethod yX8_countBySeconds ∈ lw_all := lw_all_in (List.mem_of_getElem? (i := 1626) (by decide +kernel)) rfl
theorem k_1627 : Cond.code yX8_countBySeconds cX8_countBySeconds 6 (some .int) ∈ lw_all := lw_all_in (List.mem_of_getElem? (i := 1627) (by decide +kernel)) rfl
theorem k_1628 : Cond.methodLink RX8 319 yX4_copyFrom ∈ lw_all := lw_all_in (List.mem_of_getElem? (i := 1628) (by decide +kernel)) rfl
theorem k_1629 : Cond.instanceMethod yX4_copyFrom ∈ lw_all := lw_all_in (List.mem_of_getElem? (i := 1629) (by decide +kernel)) rfl
theorem k_1630 : Cond.selects RX4 yX4_copyFrom yX4_copyFrom ∈ lw_all := lw_all_in (List.mem_of_getElem? (i := 1630) (by decide +kernel)) rfl
theorem k_1631 : Cond.code yX4_copyFrom cX4_copyFrom 2 none ∈ lw_all := lw_all_in (List.mem_of_getElem? (i := 1631) (by decide +kernel)) rfl
theorem k_1632 : Cond.methodLink RL 222 yL_movedByBeats ∈ lw_all := lw_all_in (List.mem_of_getElem? (i := 1632) (by decide +kernel)) rfl
theorem k_1633 : Cond.static yL_movedByBeats ∈ lw_all := lw_all_in (List.mem_of_getElem? (i := 1633) (by decide +kernel)) rfl
theorem k_1635 : Cond.methodLink RL 36 yX8_movedByBeats ∈ lw_all := lw_all_in (List.mem_of_getElem? (i := 1635) (by decide +kernel)) rfl
theorem k_1636 : Cond.instanceMethod yX8_movedByBeats ∈ lw_all := lw_all_in (List.mem_of_getElem? (i := 1636) (by decide +kernel)) rfl
theorem k_1637 : Cond.selects RX8 yX8_movedByBeats yX8_movedByBeats ∈ lw_all := lw_all_in (List.mem_of_getElem? (i := 1637) (by decide +kernel)) rfl
theorem k_1638 : Cond.code yX8_movedByBeats cX8_movedByBeats 3 (some .int) ∈ lw_all := lw_all_in (List.mem_of_getElem? (i := 1638) (by decide +kernel)) rfl
theorem k_1639 : Cond.methodLink RX8 105 yX6_movedByWalking ∈ lw_all := lw_all_in (List.mem_of_getElem? (i := 1639) (by decide +kernel)) rfl
theorem k_1640 : Cond.instanceMethod yX6_movedByWalking ∈ lw_all := lw_all_in (List.mem_of_getElem? (i := 1640) (by decide +kernel)) rfl
theorem k_1641 : Cond.selects RX6 yX6_movedByWalking yX6_movedByWalking ∈ lw_all := lw_all_in (List.mem_of_getElem? (i := 1641) (by decide +kernel)) rfl
theorem k_1642 : Cond.code yX6_movedByWalking cX6_movedByWalking 8 (some .long) ∈ lw_all := lw_all_in (List.mem_of_getElem? (i := 1642) (by decide +kernel)) rfl
theorem k_1643 : Cond.methodLink RX6 57 yX6_startWalk ∈ lw_all := lw_all_in (List.mem_of_getElem? (i := 1643) (by decide +kernel)) rfl
theorem k_1645 : Cond.instanceMethod yX6_startWalk ∈ lw_all := lw_all_in (List.mem_of_getElem? (i := 1645) (by decide +kernel)) rfl
theorem k_1646 : Cond.code yX6_startWalk cX6_startWalk 7 (some .long) ∈ lw_all := lw_all_in (List.mem_of_getElem? (i := 1646) (by decide +kernel)) rfl
theorem k_1647 : Cond.methodLink RX6 64 yX7_startWalk ∈ lw_all := lw_all_in (List.mem_of_getElem? (i := 1647) (by decide +kernel)) rfl
theorem k_1648 : Cond.instanceMethod yX7_startWalk ∈ lw_all := lw_all_in (List.mem_of_getElem? (i := 1648) (by decide +kernel)) rfl
theorem k_1649 : Cond.selects RX7 yX7_startWalk yX7_startWalk ∈ lw_all := lw_all_in (List.mem_of_getElem? (i := 1649) (by decide +kernel)) rfl
theorem k_1650 : Cond.code yX7_startWalk cX7_startWalk 3 none ∈ lw_all := lw_all_in (List.mem_of_getElem? (i := 1650) (by decide +kernel)) rfl
theorem k_1651 : Cond.methodLink RX7 29 yX7_movedWhen ∈ lw_all := lw_all_in (List.mem_of_getElem? (i := 1651) (by decide +kernel)) rfl
theorem k_1652 : Cond.methodLink RX6 60 yX6_walkOneBeat ∈ lw_all := lw_all_in (List.mem_of_getElem? (i := 1652) (by decide +kernel)) rfl
theorem k_1654 : Cond.instanceMethod yX6_walkOneBeat ∈ lw_all := lw_all_in (List.mem_of_getElem? (i := 1654) (by decide +kernel)) rfl
theorem k_1655 : Cond.code yX6_walkOneBeat cX6_walkOneBeat 5 (some .long) ∈ lw_all := lw_all_in (List.mem_of_getElem? (i := 1655) (by decide +kernel)) rfl
theorem k_1656 : Cond.methodLink RX6 67 yX7_walk ∈ lw_all := lw_all_in (List.mem_of_getElem? (i := 1656) (by decide +kernel)) rfl
theorem k_1657 : Cond.instanceMethod yX7_walk ∈ lw_all := lw_all_in (List.mem_of_getElem? (i := 1657) (by decide +kernel)) rfl
theorem k_1658 : Cond.selects RX7 yX7_walk yX7_walk ∈ lw_all := lw_all_in (List.mem_of_getElem? (i := 1658) (by decide +kernel)) rfl
theorem k_1659 : Cond.code yX7_walk cX7_walk 5 (some .long) ∈ lw_all := lw_all_in (List.mem_of_getElem? (i := 1659) (by decide +kernel)) rfl
theorem k_1660 : Cond.methodLink RL 286 yL_logged ∈ lw_all := lw_all_in (List.mem_of_getElem? (i := 1660) (by decide +kernel)) rfl
theorem k_1661 : Cond.static yL_logged ∈ lw_all := lw_all_in (List.mem_of_getElem? (i := 1661) (by decide +kernel)) rfl
theorem k_1662 : Cond.code yL_logged cL_logged 6 (some .boolean) ∈ lw_all := lw_all_in (List.mem_of_getElem? (i := 1662) (by decide +kernel)) rfl
theorem k_1663 : Cond.methodLink RL 224 Lib.Math.min.name ∈ lw_all := lw_all_in (List.mem_of_getElem? (i := 1663) (by decide +kernel)) rfl
theorem k_1664 : Cond.constant RL 229 (2147483647) ∈ lw_all := lw_all_in (List.mem_of_getElem? (i := 1664) (by decide +kernel)) rfl
theorem k_1665 : Cond.methodLink RL 230 yL_strokesAt ∈ lw_all := lw_all_in (List.mem_of_getElem? (i := 1665) (by decide +kernel)) rfl
theorem k_1666 : Cond.static yL_strokesAt ∈ lw_all := lw_all_in (List.mem_of_getElem? (i := 1666) (by decide +kernel)) rfl
theorem k_1668 : Cond.methodLink RL 96 yX8_strokesAt ∈ lw_all := lw_all_in (List.mem_of_getElem? (i := 1668) (by decide +kernel)) rfl
theorem k_1669 : Cond.instanceMethod yX8_strokesAt ∈ lw_all := lw_all_in (List.mem_of_getElem? (i := 1669) (by decide +kernel)) rfl
theorem k_1670 : Cond.selects RX8 yX8_strokesAt yX8_strokesAt ∈ lw_all := lw_all_in (List.mem_of_getElem? (i := 1670) (by decide +kernel)) rfl
theorem k_1671 : Cond.code yX8_strokesAt cX8_strokesAt 3 (some .int) ∈ lw_all := lw_all_in (List.mem_of_getElem? (i := 1671) (by decide +kernel)) rfl
theorem k_1672 : Cond.methodLink RX8 258 yX5_rankOfMark ∈ lw_all := lw_all_in (List.mem_of_getElem? (i := 1672) (by decide +kernel)) rfl
theorem k_1673 : Cond.instanceMethod yX5_rankOfMark ∈ lw_all := lw_all_in (List.mem_of_getElem? (i := 1673) (by decide +kernel)) rfl
theorem k_1674 : Cond.selects RX5 yX5_rankOfMark yX5_rankOfMark ∈ lw_all := lw_all_in (List.mem_of_getElem? (i := 1674) (by decide +kernel)) rfl
theorem k_1675 : Cond.code yX5_rankOfMark cX5_rankOfMark 3 (some .int) ∈ lw_all := lw_all_in (List.mem_of_getElem? (i := 1675) (by decide +kernel)) rfl
theorem k_1676 : Cond.methodLink RX5 34 yX5_keptMarks ∈ lw_all := lw_all_in (List.mem_of_getElem? (i := 1676) (by decide +kernel)) rfl
theorem k_1677 : Cond.methodLink RX5 38 yX5_markOfRank ∈ lw_all := lw_all_in (List.mem_of_getElem? (i := 1677) (by decide +kernel)) rfl
theorem k_1679 : Cond.methodLink RX8 263 yX5_strokesOfRank ∈ lw_all := lw_all_in (List.mem_of_getElem? (i := 1679) (by decide +kernel)) rfl
theorem k_1680 : Cond.instanceMethod yX5_strokesOfRank ∈ lw_all := lw_all_in (List.mem_of_getElem? (i := 1680) (by decide +kernel)) rfl
theorem k_1681 : Cond.selects RX5 yX5_strokesOfRank yX5_strokesOfRank ∈ lw_all := lw_all_in (List.mem_of_getElem? (i := 1681) (by decide +kernel)) rfl
theorem k_1682 : Cond.code yX5_strokesOfRank cX5_strokesOfRank 2 (some .int) ∈ lw_all := lw_all_in (List.mem_of_getElem? (i := 1682) (by decide +kernel)) rfl
theorem k_1683 : Cond.methodLink RL 232 yX8_isOnce ∈ lw_all := lw_all_in (List.mem_of_getElem? (i := 1683) (by decide +kernel)) rfl
theorem k_1684 : Cond.instanceMethod yX8_isOnce ∈ lw_all := lw_all_in (List.mem_of_getElem? (i := 1684) (by decide +kernel)) rfl
theorem k_1685 : Cond.selects RX8 yX8_isOnce yX8_isOnce ∈ lw_all := lw_all_in (List.mem_of_getElem? (i := 1685) (by decide +kernel)) rfl
theorem k_1686 : Cond.code yX8_isOnce cX8_isOnce 5 (some .boolean) ∈ lw_all := lw_all_in (List.mem_of_getElem? (i := 1686) (by decide +kernel)) rfl
theorem k_1687 : Cond.methodLink RX8 280 yX5_isFalling ∈ lw_all := lw_all_in (List.mem_of_getElem? (i := 1687) (by decide +kernel)) rfl
theorem k_1688 : Cond.instanceMethod yX5_isFalling ∈ lw_all := lw_all_in (List.mem_of_getElem? (i := 1688) (by decide +kernel)) rfl
theorem k_1689 : Cond.selects RX5 yX5_isFalling yX5_isFalling ∈ lw_all := lw_all_in (List.mem_of_getElem? (i := 1689) (by decide +kernel)) rfl
theorem k_1690 : Cond.code yX5_isFalling cX5_isFalling 2 (some .boolean) ∈ lw_all := lw_all_in (List.mem_of_getElem? (i := 1690) (by decide +kernel)) rfl
theorem k_1691 : Cond.methodLink RX8 284 yX0_strokesOfAllBells ∈ lw_all := lw_all_in (List.mem_of_getElem? (i := 1691) (by decide +kernel)) rfl
theorem k_1692 : Cond.instanceMethod yX0_strokesOfAllBells ∈ lw_all := lw_all_in (List.mem_of_getElem? (i := 1692) (by decide +kernel)) rfl
theorem k_1693 : Cond.selects RX0 yX0_strokesOfAllBells yX0_strokesOfAllBells ∈ lw_all := lw_all_in (List.mem_of_getElem? (i := 1693) (by decide +kernel)) rfl
theorem k_1694 : Cond.code yX0_strokesOfAllBells cX0_strokesOfAllBells 4 (some .long) ∈ lw_all := lw_all_in (List.mem_of_getElem? (i := 1694) (by decide +kernel)) rfl
theorem k_1695 : Cond.methodLink RX8 287 yX5_strokesOfAllStrikes ∈ lw_all := lw_all_in (List.mem_of_getElem? (i := 1695) (by decide +kernel)) rfl
theorem k_1696 : Cond.instanceMethod yX5_strokesOfAllStrikes ∈ lw_all := lw_all_in (List.mem_of_getElem? (i := 1696) (by decide +kernel)) rfl
theorem k_1697 : Cond.selects RX5 yX5_strokesOfAllStrikes yX5_strokesOfAllStrikes ∈ lw_all := lw_all_in (List.mem_of_getElem? (i := 1697) (by decide +kernel)) rfl
theorem k_1698 : Cond.code yX5_strokesOfAllStrikes cX5_strokesOfAllStrikes 1 (some .long) ∈ lw_all := lw_all_in (List.mem_of_getElem? (i := 1698) (by decide +kernel)) rfl
theorem k_1699 : Cond.fieldLink RX8 290 "MinsterClock" "BEATS_FOUND_BOTH_WAYS" "[I" ∈ lw_all := lw_all_in (List.mem_of_getElem? (i := 1699) (by decide +kernel)) rfl
theorem k_1701 : Cond.methodLink RL 290 yL_dated ∈ lw_all := lw_all_in (List.mem_of_getElem? (i := 1701) (by decide +kernel)) rfl
theorem k_1702 : Cond.static yL_dated ∈ lw_all := lw_all_in (List.mem_of_getElem? (i := 1702) (by decide +kernel)) rfl
theorem k_1703 : Cond.code yL_dated cL_dated 11 (some .boolean) ∈ lw_all := lw_all_in (List.mem_of_getElem? (i := 1703) (by decide +kernel)) rfl
theorem k_1704 : Cond.methodLink RL 236 yL_numberOf ∈ lw_all := lw_all_in (List.mem_of_getElem? (i := 1704) (by decide +kernel)) rfl
theorem k_1705 : Cond.static yL_numberOf ∈ lw_all := lw_all_in (List.mem_of_getElem? (i := 1705) (by decide +kernel)) rfl
theorem k_1707 : Cond.methodLink RL 59 yX8_numberOf ∈ lw_all := lw_all_in (List.mem_of_getElem? (i := 1707) (by decide +kernel)) rfl
theorem k_1708 : Cond.instanceMethod yX8_numberOf ∈ lw_all := lw_all_in (List.mem_of_getElem? (i := 1708) (by decide +kernel)) rfl
theorem k_1709 : Cond.selects RX8 yX8_numberOf yX8_numberOf ∈ lw_all := lw_all_in (List.mem_of_getElem? (i := 1709) (by decide +kernel)) rfl
theorem k_1710 : Cond.code yX8_numberOf cX8_numberOf 4 (some .long) ∈ lw_all := lw_all_in (List.mem_of_getElem? (i := 1710) (by decide +kernel)) rfl
theorem k_1711 : Cond.constantLong RL 63 (-1) ∈ lw_all := lw_all_in (List.mem_of_getElem? (i := 1711) (by decide +kernel)) rfl
theorem k_1712 : Cond.methodLink RL 239 yX8_hour ∈ lw_all := lw_all_in (List.mem_of_getElem? (i := 1712) (by decide +kernel)) rfl
theorem k_1713 : Cond.instanceMethod yX8_hour ∈ lw_all := lw_all_in (List.mem_of_getElem? (i := 1713) (by decide +kernel)) rfl
theorem k_1714 : Cond.selects RX8 yX8_hour yX8_hour ∈ lw_all := lw_all_in (List.mem_of_getElem? (i := 1714) (by decide +kernel)) rfl
theorem k_1715 : Cond.code yX8_hour cX8_hour 1 (some .int) ∈ lw_all := lw_all_in (List.mem_of_getElem? (i := 1715) (by decide +kernel)) rfl
theorem k_1716 : Cond.methodLink RX8 126 yX8_hourOf ∈ lw_all := lw_all_in (List.mem_of_getElem? (i := 1716) (by decide +kernel)) rfl
theorem k_1717 : Cond.constantLong RL 245 (7) ∈ lw_all := lw_all_in (List.mem_of_getElem? (i := 1717) (by decide +kernel)) rfl
theorem k_1718 : Cond.methodLink RL 247 yL_numberByCounting ∈ lw_all := lw_all_in (List.mem_of_getElem? (i := 1718) (by decide +kernel)) rfl
theorem k_1719 : Cond.static yL_numberByCounting ∈ lw_all := lw_all_in (List.mem_of_getElem? (i := 1719) (by decide +kernel)) rfl
theorem k_1721 : Cond.methodLink RL 65 yX8_numberByCounting ∈ lw_all := lw_all_in (List.mem_of_getElem? (i := 1721) (by decide +kernel)) rfl
theorem k_1722 : Cond.instanceMethod yX8_numberByCounting ∈ lw_all := lw_all_in (List.mem_of_getElem? (i := 1722) (by decide +kernel)) rfl
theorem k_1723 : Cond.selects RX8 yX8_numberByCounting yX8_numberByCounting ∈ lw_all := lw_all_in (List.mem_of_getElem? (i := 1723) (by decide +kernel)) rfl
theorem k_1724 : Cond.code yX8_numberByCounting cX8_numberByCounting 4 (some .long) ∈ lw_all := lw_all_in (List.mem_of_getElem? (i := 1724) (by decide +kernel)) rfl
theorem k_1725 : Cond.methodLink RX8 184 yX1_numberOneByOne ∈ lw_all := lw_all_in (List.mem_of_getElem? (i := 1725) (by decide +kernel)) rfl
theorem k_1726 : Cond.static yX1_numberOneByOne ∈ lw_all := lw_all_in (List.mem_of_getElem? (i := 1726) (by decide +kernel)) rfl
theorem k_1727 : Cond.code yX1_numberOneByOne cX1_numberOneByOne 6 (some .long) ∈ lw_all := lw_all_in (List.mem_of_getElem? (i := 1727) (by decide +kernel)) rfl
theorem k_1728 : Cond.constantLong RX1 30 (366) ∈ lw_all := lw_all_in (List.mem_of_getElem? (i := 1728) (by decide +kernel)) rfl
theorem k_1729 : Cond.methodLink RL 249 yL_isLeap ∈ lw_all := lw_all_in (List.mem_of_getElem? (i := 1729) (by decide +kernel)) rfl
theorem k_1730 : Cond.static yL_isLeap ∈ lw_all := lw_all_in (List.mem_of_getElem? (i := 1730) (by decide +kernel)) rfl
theorem k_1732 : Cond.methodLink RL 55 yX8_isLeap ∈ lw_all := lw_all_in (List.mem_of_getElem? (i := 1732) (by decide +kernel)) rfl
theorem k_1733 : Cond.instanceMethod yX8_isLeap ∈ lw_all := lw_all_in (List.mem_of_getElem? (i := 1733) (by decide +kernel)) rfl
theorem k_1734 : Cond.selects RX8 yX8_isLeap yX8_isLeap ∈ lw_all := lw_all_in (List.mem_of_getElem? (i := 1734) (by decide +kernel)) rfl
theorem k_1735 : Cond.code yX8_isLeap cX8_isLeap 2 (some .boolean) ∈ lw_all := lw_all_in (List.mem_of_getElem? (i := 1735) (by decide +kernel)) rfl
theorem k_1737 : Cond.methodLink RX8 180 yX1_hasLeapDay ∈ lw_all := lw_all_in (List.mem_of_getElem? (i := 1737) (by decide +kernel)) rfl
theorem k_1738 : Cond.constantLong RL 251 (365) ∈ lw_all := lw_all_in (List.mem_of_getElem? (i := 1738) (by decide +kernel)) rfl
theorem k_1739 : Cond.constantLong RL 253 (364) ∈ lw_all := lw_all_in (List.mem_of_getElem? (i := 1739) (by decide +kernel)) rfl
theorem k_1740 : Cond.methodLink RL 293 yL_pinned ∈ lw_all := lw_all_in (List.mem_of_getElem? (i := 1740) (by decide +kernel)) rfl
theorem k_1741 : Cond.static yL_pinned ∈ lw_all := lw_all_in (List.mem_of_getElem? (i := 1741) (by decide +kernel)) rfl
theorem k_1742 : Cond.code yL_pinned cL_pinned 5 (some .boolean) ∈ lw_all := lw_all_in (List.mem_of_getElem? (i := 1742) (by decide +kernel)) rfl
theorem k_1743 : Cond.methodLink RL 276 yJ0_equals_9ea2d ∈ lw_all := lw_all_in (List.mem_of_getElem? (i := 1743) (by decide +kernel)) rfl
theorem k_1744 : Cond.instanceMethod yJ0_equals_9ea2d ∈ lw_all := lw_all_in (List.mem_of_getElem? (i := 1744) (by decide +kernel)) rfl
theorem k_1745 : Cond.selects RJ0 yJ0_equals_9ea2d yJ0_equals_9ea2d ∈ lw_all := lw_all_in (List.mem_of_getElem? (i := 1745) (by decide +kernel)) rfl
theorem k_1746 : Cond.code yJ0_equals_9ea2d cJ0_equals_9ea2d 3 (some .boolean) ∈ lw_all := lw_all_in (List.mem_of_getElem? (i := 1746) (by decide +kernel)) rfl
theorem k_1747 : Cond.classLink RJ0 10 RJ0 ∈ lw_all := lw_all_in (List.mem_of_getElem? (i := 1747) (by decide +kernel)) rfl
theorem k_1748 : Cond.methodLink RJ0 541 yJ1_equals_b5fdf ∈ lw_all := lw_all_in (List.mem_of_getElem? (i := 1748) (by decide +kernel)) rfl
theorem k_1749 : Cond.static yJ1_equals_b5fdf ∈ lw_all := lw_all_in (List.mem_of_getElem? (i := 1749) (by decide +kernel)) rfl
theorem k_1750 : Cond.code yJ1_equals_b5fdf cJ1_equals_b5fdf 3 (some .boolean) ∈ lw_all := lw_all_in (List.mem_of_getElem? (i := 1750) (by decide +kernel)) rfl
theorem k_1751 : Cond.constantDouble RL 259 (4629137466983448576) ∈ lw_all := lw_all_in (List.mem_of_getElem? (i := 1751) (by decide +kernel)) rfl
theorem k_1752 : Cond.sameMethod "java/lang/Throwable" "java/lang/Throwable" "fillInStackTrace" "(I)Ljava/lang/Throwable;" ∈ lw_all := lw_all_in (List.mem_of_getElem? (i := 1752) (by decide +kernel)) rfl
theorem k_1753 : Cond.sameMethod RJ5 RJ5 "append" "(I)Ljava/lang/AbstractStringBuilder;" ∈ lw_all := lw_all_in (List.mem_of_getElem? (i := 1753) (by decide +kernel)) rfl
theorem k_1754 : Cond.sameMethod RJ5 RJ5 "ensureCapacityInternal" "(I)V" ∈ lw_all := lw_all_in (List.mem_of_getElem? (i := 1754) (by decide +kernel)) rfl
theorem k_1755 : Cond.sameMethod RJ5 RJ5 "newCapacity" "(I)I" ∈ lw_all := lw_all_in (List.mem_of_getElem? (i := 1755) (by decide +kernel)) rfl
theorem k_1756 : Cond.sameMethod RJ5 RJ5 "append" "(C)Ljava/lang/AbstractStringBuilder;" ∈ lw_all := lw_all_in (List.mem_of_getElem? (i := 1756) (by decide +kernel)) rfl
theorem k_1757 : Cond.sameMethod RJ5 RJ5 "inflate" "()V" ∈ lw_all := lw_all_in (List.mem_of_getElem? (i := 1757) (by decide +kernel)) rfl
theorem k_1758 : Cond.sameMethod RJ5 RJ5 "append" "(J)Ljava/lang/AbstractStringBuilder;" ∈ lw_all := lw_all_in (List.mem_of_getElem? (i := 1758) (by decide +kernel)) rfl
theorem k_1759 : Cond.sameMethod RJ5 RJ5 "append" "(F)Ljava/lang/AbstractStringBuilder;" ∈ lw_all := lw_all_in (List.mem_of_getElem? (i := 1759) (by decide +kernel)) rfl
theorem k_1760 : Cond.sameMethod RJ5 RJ5 "append" "([C)Ljava/lang/AbstractStringBuilder;" ∈ lw_all := lw_all_in (List.mem_of_getElem? (i := 1760) (by decide +kernel)) rfl
theorem k_1761 : Cond.sameMethod RJ5 RJ5 "appendChars" "([CII)V" ∈ lw_all := lw_all_in (List.mem_of_getElem? (i := 1761) (by decide +kernel)) rfl
theorem k_1762 : Cond.sameMethod RJ5 RJ5 "append" "(Ljava/lang/CharSequence;)Ljava/lang/AbstractStringBuilder;" ∈ lw_all := lw_all_in (List.mem_of_getElem? (i := 1762) (by decide +kernel)) rfl
theorem k_1763 : Cond.sameMethod RJ5 RJ5 "appendNull" "()Ljava/lang/AbstractStringBuilder;" ∈ lw_all := lw_all_in (List.mem_of_getElem? (i := 1763) (by decide +kernel)) rfl
theorem k_1764 : Cond.sameMethod RJ5 RJ5 "putStringAt" "(ILjava/lang/String;)V" ∈ lw_all := lw_all_in (List.mem_of_getElem? (i := 1764) (by decide +kernel)) rfl
theorem k_1765 : Cond.sameMethod RJ5 RJ5 "inflateIfNeededFor" "(Ljava/lang/String;)V" ∈ lw_all := lw_all_in (List.mem_of_getElem? (i := 1765) (by decide +kernel)) rfl
theorem k_1766 : Cond.sameMethod RJ5 RJ5 "inflateIfNeededFor" "(Ljava/lang/AbstractStringBuilder;)V" ∈ lw_all := lw_all_in (List.mem_of_getElem? (i := 1766) (by decide +kernel)) rfl
theorem k_1767 : Cond.sameMethod RJ5 RJ5 "appendChars" "(Ljava/lang/String;II)V" ∈ lw_all := lw_all_in (List.mem_of_getElem? (i := 1767) (by decide +kernel)) rfl
theorem k_1768 : Cond.sameMethod RJ5 RJ5 "charAt" "(I)C" ∈ lw_all := lw_all_in (List.mem_of_getElem? (i := 1768) (by decide +kernel)) rfl
theorem k_1769 : Cond.sameMethod RJ5 RJ5 "appendChars" "(Ljava/lang/CharSequence;II)V" ∈ lw_all := lw_all_in (List.mem_of_getElem? (i := 1769) (by decide +kernel)) rfl
theorem k_1792 : Cond.sameMethod "[Ljava/lang/Object;" "java/lang/Object" "getClass" "()Ljava/lang/Class;" ∈ lw_all := lw_all_in (List.mem_of_getElem? (i := 1792) (by decide +kernel)) rfl
theorem k_1793 : Cond.selects "[Ljava/lang/Object;" ⟨"java/lang/Object", "getClass", "()Ljava/lang/Class;"⟩ ⟨"java/lang/Object", "getClass", "()Ljava/lang/Class;"⟩ ∈ lw_all := lw_all_in (List.mem_of_getElem? (i := 1793) (by decide +kernel)) rfl
theorem k_1800 : Cond.fieldLink RJxe8eeb 34 "java/lang/StringBuffer" "toStringCache" "Ljava/lang/String;" ∈ lw_all := lw_all_in (List.mem_of_getElem? (i := 1800) (by decide +kernel)) rfl
theorem k_1801 : Cond.arrayClass .long ∈ lw_all := lw_all_in (List.mem_of_getElem? (i := 1801) (by decide +kernel)) rfl
theorem in_J0 : ∀ w ∈ u_ws RJ0 TJ0 4, w ∈ lw_all := by
  have e : u_ws RJ0 TJ0 4 = [Cond.laysFinal RJ0 "java/lang/String" "value" "[B", Cond.laysFinal RJ0 "java/lang/String" "coder" "B", Cond.lays RJ0 "java/lang/String" "hash" "I", Cond.lays RJ0 "java/lang/String" "hashIsZero" "Z"] := rfl
  rw [e]
  exact List.forall_mem_cons.mpr ⟨k_609, List.forall_mem_cons.mpr ⟨k_611, List.forall_mem_cons.mpr ⟨k_1598, List.forall_mem_cons.mpr ⟨k_1600, fun _ h => absurd h List.not_mem_nil⟩⟩⟩⟩
theorem in_J4 : ∀ w ∈ u_ws RJ4 TJ4 4, w ∈ lw_all := by
  have e : u_ws RJ4 TJ4 4 = [Cond.lays RJ4 "java/lang/AbstractStringBuilder" "value" "[B", Cond.lays RJ4 "java/lang/AbstractStringBuilder" "coder" "B", Cond.lays RJ4 "java/lang/AbstractStringBuilder" "maybeLatin1" "Z", Cond.lays RJ4 "java/lang/AbstractStringBuilder" "count" "I"] := rfl
  rw [e]
  exact List.forall_mem_cons.mpr ⟨k_1049, List.forall_mem_cons.mpr ⟨k_1051, List.forall_mem_cons.mpr ⟨k_1053, List.forall_mem_cons.mpr ⟨k_1055, fun _ h => absurd h List.not_mem_nil⟩⟩⟩⟩
theorem in_Jx00060 : ∀ w ∈ u_ws RJx00060 TJx00060 6, w ∈ lw_all := by
  have e : u_ws RJx00060 TJx00060 6 = [Cond.lays RJx00060 "java/lang/Throwable" "backtrace" "Ljava/lang/Object;", Cond.lays RJx00060 "java/lang/Throwable" "detailMessage" "Ljava/lang/String;", Cond.lays RJx00060 "java/lang/Throwable" "cause" "Ljava/lang/Throwable;", Cond.lays RJx00060 "java/lang/Throwable" "stackTrace" "[Ljava/lang/StackTraceElement;", Cond.lays RJx00060 "java/lang/Throwable" "depth" "I", Cond.lays RJx00060 "java/lang/Throwable" "suppressedExceptions" "Ljava/util/List;"] := rfl
  rw [e]
  exact List.forall_mem_cons.mpr ⟨k_597, List.forall_mem_cons.mpr ⟨k_598, List.forall_mem_cons.mpr ⟨k_599, List.forall_mem_cons.mpr ⟨k_600, List.forall_mem_cons.mpr ⟨k_601, List.forall_mem_cons.mpr ⟨k_602, fun _ h => absurd h List.not_mem_nil⟩⟩⟩⟩⟩⟩
theorem in_Jx4a65c : ∀ w ∈ u_ws RJx4a65c TJx4a65c 3, w ∈ lw_all := by
  have e : u_ws RJx4a65c TJx4a65c 3 = [Cond.lays RJx4a65c "java/util/AbstractList" "modCount" "I", Cond.lays RJx4a65c "java/util/ArrayList" "elementData" "[Ljava/lang/Object;", Cond.lays RJx4a65c "java/util/ArrayList" "size" "I"] := rfl
  rw [e]
  exact List.forall_mem_cons.mpr ⟨k_112, List.forall_mem_cons.mpr ⟨k_108, List.forall_mem_cons.mpr ⟨k_110, fun _ h => absurd h List.not_mem_nil⟩⟩⟩
theorem in_Jx40b00 : ∀ w ∈ u_ws RJx40b00 TJx40b00 2, w ∈ lw_all := by
  have e : u_ws RJx40b00 TJx40b00 2 = [Cond.laysFinal RJx40b00 "jdk/internal/math/FloatToDecimal" "bytes" "[B", Cond.lays RJx40b00 "jdk/internal/math/FloatToDecimal" "index" "I"] := rfl
  rw [e]
  exact List.forall_mem_cons.mpr ⟨k_1219, List.forall_mem_cons.mpr ⟨k_1221, fun _ h => absurd h List.not_mem_nil⟩⟩
theorem in_X0 : ∀ w ∈ u_ws RX0 TX0 6, w ∈ lw_all := by
  have e : u_ws RX0 TX0 6 = [Cond.laysFinal RX0 "MinsterClock$Bells" "drums" "Ljava/util/ArrayList;", Cond.laysFinal RX0 "MinsterClock$Bells" "tunes" "[LMinsterClock$Drum;", Cond.laysFinal RX0 "MinsterClock$Bells" "strokesOfBells" "[I", Cond.lays RX0 "MinsterClock$Bells" "silentFrom" "I", Cond.lays RX0 "MinsterClock$Bells" "silentTo" "I", Cond.lays RX0 "MinsterClock$Bells" "areQuartersOn" "Z"] := rfl
  rw [e]
  exact List.forall_mem_cons.mpr ⟨k_258, List.forall_mem_cons.mpr ⟨k_260, List.forall_mem_cons.mpr ⟨k_262, List.forall_mem_cons.mpr ⟨k_264, List.forall_mem_cons.mpr ⟨k_266, List.forall_mem_cons.mpr ⟨k_268, fun _ h => absurd h List.not_mem_nil⟩⟩⟩⟩⟩⟩
theorem in_X2 : ∀ w ∈ u_ws RX2 TX2 3, w ∈ lw_all := by
  have e : u_ws RX2 TX2 3 = [Cond.laysFinal RX2 "MinsterClock$Drum" "number" "I", Cond.laysFinal RX2 "MinsterClock$Drum" "bellsOfSteps" "[I", Cond.lays RX2 "MinsterClock$Drum" "pins" "I"] := rfl
  rw [e]
  exact List.forall_mem_cons.mpr ⟨k_838, List.forall_mem_cons.mpr ⟨k_840, List.forall_mem_cons.mpr ⟨k_842, fun _ h => absurd h List.not_mem_nil⟩⟩⟩
theorem in_X3 : ∀ w ∈ u_ws RX3 TX3 4, w ∈ lw_all := by
  have e : u_ws RX3 TX3 4 = [Cond.lays RX3 "MinsterClock$Hands" "shown" "I", Cond.lays RX3 "MinsterClock$Hands" "owed" "I", Cond.lays RX3 "MinsterClock$Hands" "bound" "I", Cond.lays RX3 "MinsterClock$Hands" "reached" "I"] := rfl
  rw [e]
  exact List.forall_mem_cons.mpr ⟨k_233, List.forall_mem_cons.mpr ⟨k_235, List.forall_mem_cons.mpr ⟨k_237, List.forall_mem_cons.mpr ⟨k_239, fun _ h => absurd h List.not_mem_nil⟩⟩⟩⟩
theorem in_X4 : ∀ w ∈ u_ws RX4 TX4 3, w ∈ lw_all := by
  have e : u_ws RX4 TX4 3 = [Cond.lays RX4 "MinsterClock$Pace" "numerator" "I", Cond.lays RX4 "MinsterClock$Pace" "denominator" "I", Cond.lays RX4 "MinsterClock$Pace" "rest" "I"] := rfl
  rw [e]
  exact List.forall_mem_cons.mpr ⟨k_216, List.forall_mem_cons.mpr ⟨k_218, List.forall_mem_cons.mpr ⟨k_220, fun _ h => absurd h List.not_mem_nil⟩⟩⟩
theorem in_X5 : ∀ w ∈ u_ws RX5 TX5 4, w ∈ lw_all := by
  have e : u_ws RX5 TX5 4 = [Cond.laysFinal RX5 "MinsterClock$StrikeLog" "marks" "[I", Cond.laysFinal RX5 "MinsterClock$StrikeLog" "strokesOfMarks" "[I", Cond.lays RX5 "MinsterClock$StrikeLog" "struck" "I", Cond.lays RX5 "MinsterClock$StrikeLog" "allStrokes" "J"] := rfl
  rw [e]
  exact List.forall_mem_cons.mpr ⟨k_282, List.forall_mem_cons.mpr ⟨k_284, List.forall_mem_cons.mpr ⟨k_286, List.forall_mem_cons.mpr ⟨k_288, fun _ h => absurd h List.not_mem_nil⟩⟩⟩⟩
theorem in_X6 : ∀ w ∈ u_ws RX6 TX6 1, w ∈ lw_all := by
  have e : u_ws RX6 TX6 1 = [Cond.laysFinal RX6 "MinsterClock$Train" "wheels" "Ljava/util/ArrayList;"] := rfl
  rw [e]
  exact List.forall_mem_cons.mpr ⟨k_204, fun _ h => absurd h List.not_mem_nil⟩
theorem in_X7 : ∀ w ∈ u_ws RX7 TX7 5, w ∈ lw_all := by
  have e : u_ws RX7 TX7 5 = [Cond.laysFinal RX7 "MinsterClock$Wheel" "teeth" "I", Cond.laysFinal RX7 "MinsterClock$Wheel" "leaves" "I", Cond.laysFinal RX7 "MinsterClock$Wheel" "teethBefore" "I", Cond.laysFinal RX7 "MinsterClock$Wheel" "movedBeforeAtStart" "J", Cond.lays RX7 "MinsterClock$Wheel" "walkRest" "J"] := rfl
  rw [e]
  exact List.forall_mem_cons.mpr ⟨k_126, List.forall_mem_cons.mpr ⟨k_128, List.forall_mem_cons.mpr ⟨k_130, List.forall_mem_cons.mpr ⟨k_132, List.forall_mem_cons.mpr ⟨k_134, fun _ h => absurd h List.not_mem_nil⟩⟩⟩⟩⟩
theorem in_X8 : ∀ w ∈ u_ws RX8 TX8 9, w ∈ lw_all := by
  have e : u_ws RX8 TX8 9 = [Cond.laysFinal RX8 "MinsterClock" "train" "LMinsterClock$Train;", Cond.laysFinal RX8 "MinsterClock" "pace" "LMinsterClock$Pace;", Cond.laysFinal RX8 "MinsterClock" "hands" "LMinsterClock$Hands;", Cond.laysFinal RX8 "MinsterClock" "bells" "LMinsterClock$Bells;", Cond.laysFinal RX8 "MinsterClock" "log" "LMinsterClock$StrikeLog;", Cond.laysFinal RX8 "MinsterClock" "trialPace" "LMinsterClock$Pace;", Cond.laysFinal RX8 "MinsterClock" "trialHands" "LMinsterClock$Hands;", Cond.lays RX8 "MinsterClock" "beatsPassed" "J", Cond.lays RX8 "MinsterClock" "dateOfShownZero" "J"] := rfl
  rw [e]
  exact List.forall_mem_cons.mpr ⟨k_321, List.forall_mem_cons.mpr ⟨k_323, List.forall_mem_cons.mpr ⟨k_325, List.forall_mem_cons.mpr ⟨k_327, List.forall_mem_cons.mpr ⟨k_329, List.forall_mem_cons.mpr ⟨k_331, List.forall_mem_cons.mpr ⟨k_333, List.forall_mem_cons.mpr ⟨k_335, List.forall_mem_cons.mpr ⟨k_337, fun _ h => absurd h List.not_mem_nil⟩⟩⟩⟩⟩⟩⟩⟩⟩
theorem in_X9 : ∀ w ∈ u_ws RX9 TX9 1, w ∈ lw_all := by
  have e : u_ws RX9 TX9 1 = [Cond.lays RX9 "MinsterClockLaw$Draw" "state" "I"] := rfl
  rw [e]
  exact List.forall_mem_cons.mpr ⟨k_436, fun _ h => absurd h List.not_mem_nil⟩
