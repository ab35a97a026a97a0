theorem dX9_init_0 : decode cX9_init 0 = .ok (.aload_n 0, 1) := by decide +kernel
theorem dX9_init_1 : decode cX9_init 1 = .ok (.invokespecial 1, 3) := by decide +kernel
theorem dX9_init_4 : decode cX9_init 4 = .ok (.aload_n 0, 1) := by decide +kernel
theorem dX9_init_5 : decode cX9_init 5 = .ok (.iconst 1, 1) := by decide +kernel
theorem dX9_init_6 : decode cX9_init 6 = .ok (.putfield 7, 3) := by decide +kernel
theorem dX9_init_9 : decode cX9_init 9 = .ok (.aload_n 0, 1) := by decide +kernel
theorem dX9_init_10 : decode cX9_init 10 = .ok (.iconst 1, 1) := by decide +kernel
theorem dX9_init_11 : decode cX9_init 11 = .ok (.putfield 13, 3) := by decide +kernel
theorem dX9_init_14 : decode cX9_init 14 = .ok (.aload_n 0, 1) := by decide +kernel
theorem dX9_init_15 : decode cX9_init 15 = .ok (.iconst 1, 1) := by decide +kernel
theorem dX9_init_16 : decode cX9_init 16 = .ok (.putfield 16, 3) := by decide +kernel
theorem dX9_init_19 : decode cX9_init 19 = .ok (.aload_n 0, 1) := by decide +kernel
theorem dX9_init_20 : decode cX9_init 20 = .ok (.iconst 5, 1) := by decide +kernel
theorem dX9_init_21 : decode cX9_init 21 = .ok (.putfield 19, 3) := by decide +kernel
theorem dX9_init_24 : decode cX9_init 24 = .ok (.aload_n 0, 1) := by decide +kernel
theorem dX9_init_25 : decode cX9_init 25 = .ok (.iconst 1, 1) := by decide +kernel
theorem dX9_init_26 : decode cX9_init 26 = .ok (.putfield 22, 3) := by decide +kernel
theorem dX9_init_29 : decode cX9_init 29 = .ok (.aload_n 0, 1) := by decide +kernel
theorem dX9_init_30 : decode cX9_init 30 = .ok (.bipush 6, 2) := by decide +kernel
theorem dX9_init_32 : decode cX9_init 32 = .ok (.newarray .int, 2) := by decide +kernel
theorem dX9_init_34 : decode cX9_init 34 = .ok (.dup, 1) := by decide +kernel
theorem dX9_init_35 : decode cX9_init 35 = .ok (.iconst 0, 1) := by decide +kernel
theorem dX9_init_36 : decode cX9_init 36 = .ok (.bipush 30, 2) := by decide +kernel
theorem dX9_init_38 : decode cX9_init 38 = .ok (.iastore, 1) := by decide +kernel
theorem dX9_init_39 : decode cX9_init 39 = .ok (.dup, 1) := by decide +kernel
theorem dX9_init_40 : decode cX9_init 40 = .ok (.iconst 1, 1) := by decide +kernel
theorem dX9_init_41 : decode cX9_init 41 = .ok (.iconst 0, 1) := by decide +kernel
theorem dX9_init_42 : decode cX9_init 42 = .ok (.iastore, 1) := by decide +kernel
theorem dX9_init_43 : decode cX9_init 43 = .ok (.dup, 1) := by decide +kernel
theorem dX9_init_44 : decode cX9_init 44 = .ok (.iconst 2, 1) := by decide +kernel
theorem dX9_init_45 : decode cX9_init 45 = .ok (.iconst 0, 1) := by decide +kernel
theorem dX9_init_46 : decode cX9_init 46 = .ok (.iastore, 1) := by decide +kernel
theorem dX9_init_47 : decode cX9_init 47 = .ok (.dup, 1) := by decide +kernel
theorem dX9_init_48 : decode cX9_init 48 = .ok (.iconst 3, 1) := by decide +kernel
theorem dX9_init_49 : decode cX9_init 49 = .ok (.iconst 0, 1) := by decide +kernel
theorem dX9_init_50 : decode cX9_init 50 = .ok (.iastore, 1) := by decide +kernel
theorem dX9_init_51 : decode cX9_init 51 = .ok (.dup, 1) := by decide +kernel
theorem dX9_init_52 : decode cX9_init 52 = .ok (.iconst 4, 1) := by decide +kernel
theorem dX9_init_53 : decode cX9_init 53 = .ok (.iconst 0, 1) := by decide +kernel
theorem dX9_init_54 : decode cX9_init 54 = .ok (.iastore, 1) := by decide +kernel
theorem dX9_init_55 : decode cX9_init 55 = .ok (.dup, 1) := by decide +kernel
theorem dX9_init_56 : decode cX9_init 56 = .ok (.iconst 5, 1) := by decide +kernel
theorem dX9_init_57 : decode cX9_init 57 = .ok (.iconst 0, 1) := by decide +kernel
theorem dX9_init_58 : decode cX9_init 58 = .ok (.iastore, 1) := by decide +kernel
theorem dX9_init_59 : decode cX9_init 59 = .ok (.putfield 26, 3) := by decide +kernel
theorem dX9_init_62 : decode cX9_init 62 = .ok (.aload_n 0, 1) := by decide +kernel
theorem dX9_init_63 : decode cX9_init 63 = .ok (.bipush 6, 2) := by decide +kernel
theorem dX9_init_65 : decode cX9_init 65 = .ok (.newarray .int, 2) := by decide +kernel
theorem dX9_init_67 : decode cX9_init 67 = .ok (.putfield 30, 3) := by decide +kernel
theorem dX9_init_70 : decode cX9_init 70 = .ok (.aload_n 0, 1) := by decide +kernel
theorem dX9_init_71 : decode cX9_init 71 = .ok (.sipush 128, 3) := by decide +kernel
theorem dX9_init_74 : decode cX9_init 74 = .ok (.newarray .int, 2) := by decide +kernel
theorem dX9_init_76 : decode cX9_init 76 = .ok (.putfield 33, 3) := by decide +kernel
theorem dX9_init_79 : decode cX9_init 79 = .ok (.aload_n 0, 1) := by decide +kernel
theorem dX9_init_80 : decode cX9_init 80 = .ok (.bipush 24, 2) := by decide +kernel
theorem dX9_init_82 : decode cX9_init 82 = .ok (.newarray .int, 2) := by decide +kernel
theorem dX9_init_84 : decode cX9_init 84 = .ok (.putfield 36, 3) := by decide +kernel
theorem dX9_init_87 : decode cX9_init 87 = .ok (.aload_n 0, 1) := by decide +kernel
theorem dX9_init_88 : decode cX9_init 88 = .ok (.bipush 9, 2) := by decide +kernel
theorem dX9_init_90 : decode cX9_init 90 = .ok (.newarray .int, 2) := by decide +kernel
theorem dX9_init_92 : decode cX9_init 92 = .ok (.putfield 39, 3) := by decide +kernel
theorem dX9_init_95 : decode cX9_init 95 = .ok (.aload_n 0, 1) := by decide +kernel
theorem dX9_init_96 : decode cX9_init 96 = .ok (.bipush 40, 2) := by decide +kernel
theorem dX9_init_98 : decode cX9_init 98 = .ok (.newarray .int, 2) := by decide +kernel
theorem dX9_init_100 : decode cX9_init 100 = .ok (.putfield 42, 3) := by decide +kernel
theorem dX9_init_103 : decode cX9_init 103 = .ok (.aload_n 0, 1) := by decide +kernel
theorem dX9_init_104 : decode cX9_init 104 = .ok (.bipush 40, 2) := by decide +kernel
theorem dX9_init_106 : decode cX9_init 106 = .ok (.newarray .int, 2) := by decide +kernel
theorem dX9_init_108 : decode cX9_init 108 = .ok (.putfield 45, 3) := by decide +kernel
theorem dX9_init_111 : decode cX9_init 111 = .ok (.aload_n 0, 1) := by decide +kernel
theorem dX9_init_112 : decode cX9_init 112 = .ok (.bipush 6, 2) := by decide +kernel
theorem dX9_init_114 : decode cX9_init 114 = .ok (.newarray .long, 2) := by decide +kernel
theorem dX9_init_116 : decode cX9_init 116 = .ok (.putfield 48, 3) := by decide +kernel
theorem dX9_init_119 : decode cX9_init 119 = .ok (.iconst 0, 1) := by decide +kernel
theorem dX9_init_120 : decode cX9_init 120 = .ok (.istore_n 1, 1) := by decide +kernel
theorem dX9_init_121 : decode cX9_init 121 = .ok (.iload_n 1, 1) := by decide +kernel
theorem dX9_init_122 : decode cX9_init 122 = .ok (.bipush 24, 2) := by decide +kernel
theorem dX9_init_124 : decode cX9_init 124 = .ok (.if_icmp .ge 16, 3) := by decide +kernel
theorem dX9_init_127 : decode cX9_init 127 = .ok (.aload_n 0, 1) := by decide +kernel
theorem dX9_init_128 : decode cX9_init 128 = .ok (.getfield 36, 3) := by decide +kernel
theorem dX9_init_131 : decode cX9_init 131 = .ok (.iload_n 1, 1) := by decide +kernel
theorem dX9_init_132 : decode cX9_init 132 = .ok (.iconst (-1), 1) := by decide +kernel
theorem dX9_init_133 : decode cX9_init 133 = .ok (.iastore, 1) := by decide +kernel
theorem dX9_init_134 : decode cX9_init 134 = .ok (.iinc 1 1, 3) := by decide +kernel
theorem dX9_init_137 : decode cX9_init 137 = .ok (.goto (-16), 3) := by decide +kernel
theorem dX9_init_140 : decode cX9_init 140 = .ok (.aload_n 0, 1) := by decide +kernel
theorem dX9_init_141 : decode cX9_init 141 = .ok (.sipush 2000, 3) := by decide +kernel
theorem dX9_init_144 : decode cX9_init 144 = .ok (.iconst 1, 1) := by decide +kernel
theorem dX9_init_145 : decode cX9_init 145 = .ok (.iconst 1, 1) := by decide +kernel
theorem dX9_init_146 : decode cX9_init 146 = .ok (.invokestatic 52, 3) := by decide +kernel
theorem dX9_init_149 : decode cX9_init 149 = .ok (.putfield 56, 3) := by decide +kernel
theorem dX9_init_152 : decode cX9_init 152 = .ok (.return_, 1) := by decide +kernel
theorem dX9_thrown_0 : decode cX9_thrown 0 = .ok (.aload_n 0, 1) := by decide +kernel
theorem dX9_thrown_1 : decode cX9_thrown 1 = .ok (.getfield 60, 3) := by decide +kernel
theorem dX9_thrown_4 : decode cX9_thrown 4 = .ok (.ireturn, 1) := by decide +kernel
theorem dX9_fail_0 : decode cX9_fail 0 = .ok (.aload_n 0, 1) := by decide +kernel
theorem dX9_fail_1 : decode cX9_fail 1 = .ok (.iload_n 1, 1) := by decide +kernel
theorem dX9_fail_2 : decode cX9_fail 2 = .ok (.putfield 60, 3) := by decide +kernel
theorem dX9_fail_5 : decode cX9_fail 5 = .ok (.iconst 0, 1) := by decide +kernel
theorem dX9_fail_6 : decode cX9_fail 6 = .ok (.ireturn, 1) := by decide +kernel
theorem dX9_isIn_0 : decode cX9_isIn 0 = .ok (.iload_n 0, 1) := by decide +kernel
theorem dX9_isIn_1 : decode cX9_isIn 1 = .ok (.iload_n 1, 1) := by decide +kernel
theorem dX9_isIn_2 : decode cX9_isIn 2 = .ok (.if_icmp .lt 12, 3) := by decide +kernel
theorem dX9_isIn_5 : decode cX9_isIn 5 = .ok (.iload_n 0, 1) := by decide +kernel
theorem dX9_isIn_6 : decode cX9_isIn 6 = .ok (.iload_n 2, 1) := by decide +kernel
theorem dX9_isIn_7 : decode cX9_isIn 7 = .ok (.if_icmp .gt 7, 3) := by decide +kernel
theorem dX9_isIn_10 : decode cX9_isIn 10 = .ok (.iconst 1, 1) := by decide +kernel
theorem dX9_isIn_11 : decode cX9_isIn 11 = .ok (.goto 4, 3) := by decide +kernel
theorem dX9_isIn_14 : decode cX9_isIn 14 = .ok (.iconst 0, 1) := by decide +kernel
theorem dX9_isIn_15 : decode cX9_isIn 15 = .ok (.ireturn, 1) := by decide +kernel
theorem dX9_movedAt_0 : decode cX9_movedAt 0 = .ok (.lload_n 2, 1) := by decide +kernel
theorem dX9_movedAt_1 : decode cX9_movedAt 1 = .ok (.lstore 4, 2) := by decide +kernel
theorem dX9_movedAt_3 : decode cX9_movedAt 3 = .ok (.iconst 1, 1) := by decide +kernel
theorem dX9_movedAt_4 : decode cX9_movedAt 4 = .ok (.istore 6, 2) := by decide +kernel
theorem dX9_movedAt_6 : decode cX9_movedAt 6 = .ok (.iload 6, 2) := by decide +kernel
theorem dX9_movedAt_8 : decode cX9_movedAt 8 = .ok (.iload_n 1, 1) := by decide +kernel
theorem dX9_movedAt_9 : decode cX9_movedAt 9 = .ok (.if_icmp .gt 41, 3) := by decide +kernel
theorem dX9_movedAt_12 : decode cX9_movedAt 12 = .ok (.lload 4, 2) := by decide +kernel
theorem dX9_movedAt_14 : decode cX9_movedAt 14 = .ok (.aload_n 0, 1) := by decide +kernel
theorem dX9_movedAt_15 : decode cX9_movedAt 15 = .ok (.getfield 48, 3) := by decide +kernel
theorem dX9_movedAt_18 : decode cX9_movedAt 18 = .ok (.iload 6, 2) := by decide +kernel
theorem dX9_movedAt_20 : decode cX9_movedAt 20 = .ok (.laload, 1) := by decide +kernel
theorem dX9_movedAt_21 : decode cX9_movedAt 21 = .ok (.lsub, 1) := by decide +kernel
theorem dX9_movedAt_22 : decode cX9_movedAt 22 = .ok (.aload_n 0, 1) := by decide +kernel
theorem dX9_movedAt_23 : decode cX9_movedAt 23 = .ok (.getfield 30, 3) := by decide +kernel
theorem dX9_movedAt_26 : decode cX9_movedAt 26 = .ok (.iload 6, 2) := by decide +kernel
theorem dX9_movedAt_28 : decode cX9_movedAt 28 = .ok (.iaload, 1) := by decide +kernel
theorem dX9_movedAt_29 : decode cX9_movedAt 29 = .ok (.i2l, 1) := by decide +kernel
theorem dX9_movedAt_30 : decode cX9_movedAt 30 = .ok (.lmul, 1) := by decide +kernel
theorem dX9_movedAt_31 : decode cX9_movedAt 31 = .ok (.aload_n 0, 1) := by decide +kernel
theorem dX9_movedAt_32 : decode cX9_movedAt 32 = .ok (.getfield 26, 3) := by decide +kernel
theorem dX9_movedAt_35 : decode cX9_movedAt 35 = .ok (.iload 6, 2) := by decide +kernel
theorem dX9_movedAt_37 : decode cX9_movedAt 37 = .ok (.iconst 1, 1) := by decide +kernel
theorem dX9_movedAt_38 : decode cX9_movedAt 38 = .ok (.isub, 1) := by decide +kernel
theorem dX9_movedAt_39 : decode cX9_movedAt 39 = .ok (.iaload, 1) := by decide +kernel
theorem dX9_movedAt_40 : decode cX9_movedAt 40 = .ok (.i2l, 1) := by decide +kernel
theorem dX9_movedAt_41 : decode cX9_movedAt 41 = .ok (.ldiv, 1) := by decide +kernel
theorem dX9_movedAt_42 : decode cX9_movedAt 42 = .ok (.lstore 4, 2) := by decide +kernel
theorem dX9_movedAt_44 : decode cX9_movedAt 44 = .ok (.iinc 6 1, 3) := by decide +kernel
theorem dX9_movedAt_47 : decode cX9_movedAt 47 = .ok (.goto (-41), 3) := by decide +kernel
theorem dX9_movedAt_50 : decode cX9_movedAt 50 = .ok (.lload 4, 2) := by decide +kernel
theorem dX9_movedAt_52 : decode cX9_movedAt 52 = .ok (.lreturn, 1) := by decide +kernel
theorem dX9_addWheel_0 : decode cX9_addWheel 0 = .ok (.iload_n 1, 1) := by decide +kernel
theorem dX9_addWheel_1 : decode cX9_addWheel 1 = .ok (.bipush 6, 2) := by decide +kernel
theorem dX9_addWheel_3 : decode cX9_addWheel 3 = .ok (.bipush 120, 2) := by decide +kernel
theorem dX9_addWheel_5 : decode cX9_addWheel 5 = .ok (.invokestatic 63, 3) := by decide +kernel
theorem dX9_addWheel_8 : decode cX9_addWheel 8 = .ok (.ifCond .eq 14, 3) := by decide +kernel
theorem dX9_addWheel_11 : decode cX9_addWheel 11 = .ok (.iload_n 2, 1) := by decide +kernel
theorem dX9_addWheel_12 : decode cX9_addWheel 12 = .ok (.bipush 6, 2) := by decide +kernel
theorem dX9_addWheel_14 : decode cX9_addWheel 14 = .ok (.bipush 24, 2) := by decide +kernel
theorem dX9_addWheel_16 : decode cX9_addWheel 16 = .ok (.invokestatic 63, 3) := by decide +kernel
theorem dX9_addWheel_19 : decode cX9_addWheel 19 = .ok (.ifCond .ne 9, 3) := by decide +kernel
theorem dX9_addWheel_22 : decode cX9_addWheel 22 = .ok (.aload_n 0, 1) := by decide +kernel
theorem dX9_addWheel_23 : decode cX9_addWheel 23 = .ok (.iconst 1, 1) := by decide +kernel
theorem dX9_addWheel_24 : decode cX9_addWheel 24 = .ok (.invokevirtual 67, 3) := by decide +kernel
theorem dX9_addWheel_27 : decode cX9_addWheel 27 = .ok (.ireturn, 1) := by decide +kernel
theorem dX9_addWheel_28 : decode cX9_addWheel 28 = .ok (.aload_n 0, 1) := by decide +kernel
theorem dX9_addWheel_29 : decode cX9_addWheel 29 = .ok (.getfield 7, 3) := by decide +kernel
theorem dX9_addWheel_32 : decode cX9_addWheel 32 = .ok (.bipush 6, 2) := by decide +kernel
theorem dX9_addWheel_34 : decode cX9_addWheel 34 = .ok (.if_icmp .ne 9, 3) := by decide +kernel
theorem dX9_addWheel_37 : decode cX9_addWheel 37 = .ok (.aload_n 0, 1) := by decide +kernel
theorem dX9_addWheel_38 : decode cX9_addWheel 38 = .ok (.iconst 2, 1) := by decide +kernel
theorem dX9_addWheel_39 : decode cX9_addWheel 39 = .ok (.invokevirtual 67, 3) := by decide +kernel
theorem dX9_addWheel_42 : decode cX9_addWheel 42 = .ok (.ireturn, 1) := by decide +kernel
theorem dX9_addWheel_43 : decode cX9_addWheel 43 = .ok (.aload_n 0, 1) := by decide +kernel
theorem dX9_addWheel_44 : decode cX9_addWheel 44 = .ok (.iconst 0, 1) := by decide +kernel
theorem dX9_addWheel_45 : decode cX9_addWheel 45 = .ok (.putfield 60, 3) := by decide +kernel
theorem dX9_addWheel_48 : decode cX9_addWheel 48 = .ok (.aload_n 0, 1) := by decide +kernel
theorem dX9_addWheel_49 : decode cX9_addWheel 49 = .ok (.getfield 26, 3) := by decide +kernel
theorem dX9_addWheel_52 : decode cX9_addWheel 52 = .ok (.aload_n 0, 1) := by decide +kernel
theorem dX9_addWheel_53 : decode cX9_addWheel 53 = .ok (.getfield 7, 3) := by decide +kernel
theorem dX9_addWheel_56 : decode cX9_addWheel 56 = .ok (.iload_n 1, 1) := by decide +kernel
theorem dX9_addWheel_57 : decode cX9_addWheel 57 = .ok (.iastore, 1) := by decide +kernel
theorem dX9_addWheel_58 : decode cX9_addWheel 58 = .ok (.aload_n 0, 1) := by decide +kernel
theorem dX9_addWheel_59 : decode cX9_addWheel 59 = .ok (.getfield 30, 3) := by decide +kernel
theorem dX9_addWheel_62 : decode cX9_addWheel 62 = .ok (.aload_n 0, 1) := by decide +kernel
theorem dX9_addWheel_63 : decode cX9_addWheel 63 = .ok (.getfield 7, 3) := by decide +kernel
theorem dX9_addWheel_66 : decode cX9_addWheel 66 = .ok (.iload_n 2, 1) := by decide +kernel
theorem dX9_addWheel_67 : decode cX9_addWheel 67 = .ok (.iastore, 1) := by decide +kernel
theorem dX9_addWheel_68 : decode cX9_addWheel 68 = .ok (.aload_n 0, 1) := by decide +kernel
theorem dX9_addWheel_69 : decode cX9_addWheel 69 = .ok (.getfield 48, 3) := by decide +kernel
theorem dX9_addWheel_72 : decode cX9_addWheel 72 = .ok (.aload_n 0, 1) := by decide +kernel
theorem dX9_addWheel_73 : decode cX9_addWheel 73 = .ok (.getfield 7, 3) := by decide +kernel
theorem dX9_addWheel_76 : decode cX9_addWheel 76 = .ok (.aload_n 0, 1) := by decide +kernel
theorem dX9_addWheel_77 : decode cX9_addWheel 77 = .ok (.aload_n 0, 1) := by decide +kernel
theorem dX9_addWheel_78 : decode cX9_addWheel 78 = .ok (.getfield 7, 3) := by decide +kernel
theorem dX9_addWheel_81 : decode cX9_addWheel 81 = .ok (.iconst 1, 1) := by decide +kernel
theorem dX9_addWheel_82 : decode cX9_addWheel 82 = .ok (.isub, 1) := by decide +kernel
theorem dX9_addWheel_83 : decode cX9_addWheel 83 = .ok (.aload_n 0, 1) := by decide +kernel
theorem dX9_addWheel_84 : decode cX9_addWheel 84 = .ok (.getfield 71, 3) := by decide +kernel
theorem dX9_addWheel_87 : decode cX9_addWheel 87 = .ok (.invokevirtual 74, 3) := by decide +kernel
theorem dX9_addWheel_90 : decode cX9_addWheel 90 = .ok (.lastore, 1) := by decide +kernel
theorem dX9_addWheel_91 : decode cX9_addWheel 91 = .ok (.aload_n 0, 1) := by decide +kernel
theorem dX9_addWheel_92 : decode cX9_addWheel 92 = .ok (.dup, 1) := by decide +kernel
theorem dX9_addWheel_93 : decode cX9_addWheel 93 = .ok (.getfield 7, 3) := by decide +kernel
theorem dX9_addWheel_96 : decode cX9_addWheel 96 = .ok (.dup_x1, 1) := by decide +kernel
theorem dX9_addWheel_97 : decode cX9_addWheel 97 = .ok (.iconst 1, 1) := by decide +kernel
theorem dX9_addWheel_98 : decode cX9_addWheel 98 = .ok (.iadd, 1) := by decide +kernel
theorem dX9_addWheel_99 : decode cX9_addWheel 99 = .ok (.putfield 7, 3) := by decide +kernel
theorem dX9_addWheel_102 : decode cX9_addWheel 102 = .ok (.ireturn, 1) := by decide +kernel
theorem dX9_wheels_0 : decode cX9_wheels 0 = .ok (.aload_n 0, 1) := by decide +kernel
theorem dX9_wheels_1 : decode cX9_wheels 1 = .ok (.getfield 7, 3) := by decide +kernel
theorem dX9_wheels_4 : decode cX9_wheels 4 = .ok (.ireturn, 1) := by decide +kernel
theorem dX9_noWheel_0 : decode cX9_noWheel 0 = .ok (.aload_n 0, 1) := by decide +kernel
theorem dX9_noWheel_1 : decode cX9_noWheel 1 = .ok (.iload_n 1, 1) := by decide +kernel
theorem dX9_noWheel_2 : decode cX9_noWheel 2 = .ok (.iconst 0, 1) := by decide +kernel
theorem dX9_noWheel_3 : decode cX9_noWheel 3 = .ok (.aload_n 0, 1) := by decide +kernel
theorem dX9_noWheel_4 : decode cX9_noWheel 4 = .ok (.getfield 7, 3) := by decide +kernel
theorem dX9_noWheel_7 : decode cX9_noWheel 7 = .ok (.iconst 1, 1) := by decide +kernel
theorem dX9_noWheel_8 : decode cX9_noWheel 8 = .ok (.isub, 1) := by decide +kernel
theorem dX9_noWheel_9 : decode cX9_noWheel 9 = .ok (.invokestatic 63, 3) := by decide +kernel
theorem dX9_noWheel_12 : decode cX9_noWheel 12 = .ok (.ifCond .eq 7, 3) := by decide +kernel
theorem dX9_noWheel_15 : decode cX9_noWheel 15 = .ok (.iconst 0, 1) := by decide +kernel
theorem dX9_noWheel_16 : decode cX9_noWheel 16 = .ok (.goto 4, 3) := by decide +kernel
theorem dX9_noWheel_19 : decode cX9_noWheel 19 = .ok (.iconst 1, 1) := by decide +kernel
theorem dX9_noWheel_20 : decode cX9_noWheel 20 = .ok (.putfield 60, 3) := by decide +kernel
theorem dX9_noWheel_23 : decode cX9_noWheel 23 = .ok (.aload_n 0, 1) := by decide +kernel
theorem dX9_noWheel_24 : decode cX9_noWheel 24 = .ok (.getfield 60, 3) := by decide +kernel
theorem dX9_noWheel_27 : decode cX9_noWheel 27 = .ok (.ifCond .eq 7, 3) := by decide +kernel
theorem dX9_noWheel_30 : decode cX9_noWheel 30 = .ok (.iconst 1, 1) := by decide +kernel
theorem dX9_noWheel_31 : decode cX9_noWheel 31 = .ok (.goto 4, 3) := by decide +kernel
theorem dX9_noWheel_34 : decode cX9_noWheel 34 = .ok (.iconst 0, 1) := by decide +kernel
theorem dX9_noWheel_35 : decode cX9_noWheel 35 = .ok (.ireturn, 1) := by decide +kernel
theorem dX9_moved_0 : decode cX9_moved 0 = .ok (.aload_n 0, 1) := by decide +kernel
theorem dX9_moved_1 : decode cX9_moved 1 = .ok (.iload_n 1, 1) := by decide +kernel
theorem dX9_moved_2 : decode cX9_moved 2 = .ok (.invokevirtual 78, 3) := by decide +kernel
theorem dX9_moved_5 : decode cX9_moved 5 = .ok (.ifCond .eq 7, 3) := by decide +kernel
theorem dX9_moved_8 : decode cX9_moved 8 = .ok (.iconst 0, 1) := by decide +kernel
theorem dX9_moved_9 : decode cX9_moved 9 = .ok (.goto 13, 3) := by decide +kernel
theorem dX9_moved_12 : decode cX9_moved 12 = .ok (.aload_n 0, 1) := by decide +kernel
theorem dX9_moved_13 : decode cX9_moved 13 = .ok (.iload_n 1, 1) := by decide +kernel
theorem dX9_moved_14 : decode cX9_moved 14 = .ok (.aload_n 0, 1) := by decide +kernel
theorem dX9_moved_15 : decode cX9_moved 15 = .ok (.getfield 71, 3) := by decide +kernel
theorem dX9_moved_18 : decode cX9_moved 18 = .ok (.invokevirtual 74, 3) := by decide +kernel
theorem dX9_moved_21 : decode cX9_moved 21 = .ok (.l2i, 1) := by decide +kernel
theorem dX9_moved_22 : decode cX9_moved 22 = .ok (.ireturn, 1) := by decide +kernel
theorem dX9_wholeTurns_0 : decode cX9_wholeTurns 0 = .ok (.aload_n 0, 1) := by decide +kernel
theorem dX9_wholeTurns_1 : decode cX9_wholeTurns 1 = .ok (.iload_n 1, 1) := by decide +kernel
theorem dX9_wholeTurns_2 : decode cX9_wholeTurns 2 = .ok (.invokevirtual 78, 3) := by decide +kernel
theorem dX9_wholeTurns_5 : decode cX9_wholeTurns 5 = .ok (.ifCond .eq 7, 3) := by decide +kernel
theorem dX9_wholeTurns_8 : decode cX9_wholeTurns 8 = .ok (.iconst 0, 1) := by decide +kernel
theorem dX9_wholeTurns_9 : decode cX9_wholeTurns 9 = .ok (.goto 21, 3) := by decide +kernel
theorem dX9_wholeTurns_12 : decode cX9_wholeTurns 12 = .ok (.aload_n 0, 1) := by decide +kernel
theorem dX9_wholeTurns_13 : decode cX9_wholeTurns 13 = .ok (.iload_n 1, 1) := by decide +kernel
theorem dX9_wholeTurns_14 : decode cX9_wholeTurns 14 = .ok (.aload_n 0, 1) := by decide +kernel
theorem dX9_wholeTurns_15 : decode cX9_wholeTurns 15 = .ok (.getfield 71, 3) := by decide +kernel
theorem dX9_wholeTurns_18 : decode cX9_wholeTurns 18 = .ok (.invokevirtual 74, 3) := by decide +kernel
theorem dX9_wholeTurns_21 : decode cX9_wholeTurns 21 = .ok (.aload_n 0, 1) := by decide +kernel
theorem dX9_wholeTurns_22 : decode cX9_wholeTurns 22 = .ok (.getfield 26, 3) := by decide +kernel
theorem dX9_wholeTurns_25 : decode cX9_wholeTurns 25 = .ok (.iload_n 1, 1) := by decide +kernel
theorem dX9_wholeTurns_26 : decode cX9_wholeTurns 26 = .ok (.iaload, 1) := by decide +kernel
theorem dX9_wholeTurns_27 : decode cX9_wholeTurns 27 = .ok (.i2l, 1) := by decide +kernel
theorem dX9_wholeTurns_28 : decode cX9_wholeTurns 28 = .ok (.ldiv, 1) := by decide +kernel
theorem dX9_wholeTurns_29 : decode cX9_wholeTurns 29 = .ok (.l2i, 1) := by decide +kernel
theorem dX9_wholeTurns_30 : decode cX9_wholeTurns 30 = .ok (.ireturn, 1) := by decide +kernel
theorem dX9_beatsForTurn_0 : decode cX9_beatsForTurn 0 = .ok (.aload_n 0, 1) := by decide +kernel
theorem dX9_beatsForTurn_1 : decode cX9_beatsForTurn 1 = .ok (.iload_n 1, 1) := by decide +kernel
theorem dX9_beatsForTurn_2 : decode cX9_beatsForTurn 2 = .ok (.invokevirtual 78, 3) := by decide +kernel
theorem dX9_beatsForTurn_5 : decode cX9_beatsForTurn 5 = .ok (.ifCond .eq 5, 3) := by decide +kernel
theorem dX9_beatsForTurn_8 : decode cX9_beatsForTurn 8 = .ok (.dconst 0, 1) := by decide +kernel
theorem dX9_beatsForTurn_9 : decode cX9_beatsForTurn 9 = .ok (.dreturn, 1) := by decide +kernel
theorem dX9_beatsForTurn_10 : decode cX9_beatsForTurn 10 = .ok (.ldc2_w 82, 3) := by decide +kernel
theorem dX9_beatsForTurn_13 : decode cX9_beatsForTurn 13 = .ok (.dstore_n 2, 1) := by decide +kernel
theorem dX9_beatsForTurn_14 : decode cX9_beatsForTurn 14 = .ok (.iconst 1, 1) := by decide +kernel
theorem dX9_beatsForTurn_15 : decode cX9_beatsForTurn 15 = .ok (.istore 4, 2) := by decide +kernel
theorem dX9_beatsForTurn_17 : decode cX9_beatsForTurn 17 = .ok (.iload 4, 2) := by decide +kernel
theorem dX9_beatsForTurn_19 : decode cX9_beatsForTurn 19 = .ok (.iload_n 1, 1) := by decide +kernel
theorem dX9_beatsForTurn_20 : decode cX9_beatsForTurn 20 = .ok (.if_icmp .gt 29, 3) := by decide +kernel
theorem dX9_beatsForTurn_23 : decode cX9_beatsForTurn 23 = .ok (.dload_n 2, 1) := by decide +kernel
theorem dX9_beatsForTurn_24 : decode cX9_beatsForTurn 24 = .ok (.aload_n 0, 1) := by decide +kernel
theorem dX9_beatsForTurn_25 : decode cX9_beatsForTurn 25 = .ok (.getfield 26, 3) := by decide +kernel
theorem dX9_beatsForTurn_28 : decode cX9_beatsForTurn 28 = .ok (.iload 4, 2) := by decide +kernel
theorem dX9_beatsForTurn_30 : decode cX9_beatsForTurn 30 = .ok (.iaload, 1) := by decide +kernel
theorem dX9_beatsForTurn_31 : decode cX9_beatsForTurn 31 = .ok (.i2d, 1) := by decide +kernel
theorem dX9_beatsForTurn_32 : decode cX9_beatsForTurn 32 = .ok (.dmul, 1) := by decide +kernel
theorem dX9_beatsForTurn_33 : decode cX9_beatsForTurn 33 = .ok (.aload_n 0, 1) := by decide +kernel
theorem dX9_beatsForTurn_34 : decode cX9_beatsForTurn 34 = .ok (.getfield 30, 3) := by decide +kernel
theorem dX9_beatsForTurn_37 : decode cX9_beatsForTurn 37 = .ok (.iload 4, 2) := by decide +kernel
theorem dX9_beatsForTurn_39 : decode cX9_beatsForTurn 39 = .ok (.iaload, 1) := by decide +kernel
theorem dX9_beatsForTurn_40 : decode cX9_beatsForTurn 40 = .ok (.i2d, 1) := by decide +kernel
theorem dX9_beatsForTurn_41 : decode cX9_beatsForTurn 41 = .ok (.ddiv, 1) := by decide +kernel
theorem dX9_beatsForTurn_42 : decode cX9_beatsForTurn 42 = .ok (.dstore_n 2, 1) := by decide +kernel
theorem dX9_beatsForTurn_43 : decode cX9_beatsForTurn 43 = .ok (.iinc 4 1, 3) := by decide +kernel
theorem dX9_beatsForTurn_46 : decode cX9_beatsForTurn 46 = .ok (.goto (-29), 3) := by decide +kernel
theorem dX9_beatsForTurn_49 : decode cX9_beatsForTurn 49 = .ok (.dload_n 2, 1) := by decide +kernel
theorem dX9_beatsForTurn_50 : decode cX9_beatsForTurn 50 = .ok (.dreturn, 1) := by decide +kernel
theorem dX9_movedAhead_0 : decode cX9_movedAhead 0 = .ok (.aload_n 0, 1) := by decide +kernel
theorem dX9_movedAhead_1 : decode cX9_movedAhead 1 = .ok (.iload_n 1, 1) := by decide +kernel
theorem dX9_movedAhead_2 : decode cX9_movedAhead 2 = .ok (.invokevirtual 78, 3) := by decide +kernel
theorem dX9_movedAhead_5 : decode cX9_movedAhead 5 = .ok (.ifCond .eq 5, 3) := by decide +kernel
theorem dX9_movedAhead_8 : decode cX9_movedAhead 8 = .ok (.iconst 0, 1) := by decide +kernel
theorem dX9_movedAhead_9 : decode cX9_movedAhead 9 = .ok (.ireturn, 1) := by decide +kernel
theorem dX9_movedAhead_10 : decode cX9_movedAhead 10 = .ok (.iload_n 2, 1) := by decide +kernel
theorem dX9_movedAhead_11 : decode cX9_movedAhead 11 = .ok (.iconst 1, 1) := by decide +kernel
theorem dX9_movedAhead_12 : decode cX9_movedAhead 12 = .ok (.sipush 5000, 3) := by decide +kernel
theorem dX9_movedAhead_15 : decode cX9_movedAhead 15 = .ok (.invokestatic 63, 3) := by decide +kernel
theorem dX9_movedAhead_18 : decode cX9_movedAhead 18 = .ok (.ifCond .ne 9, 3) := by decide +kernel
theorem dX9_movedAhead_21 : decode cX9_movedAhead 21 = .ok (.aload_n 0, 1) := by decide +kernel
theorem dX9_movedAhead_22 : decode cX9_movedAhead 22 = .ok (.iconst 2, 1) := by decide +kernel
theorem dX9_movedAhead_23 : decode cX9_movedAhead 23 = .ok (.invokevirtual 67, 3) := by decide +kernel
theorem dX9_movedAhead_26 : decode cX9_movedAhead 26 = .ok (.ireturn, 1) := by decide +kernel
theorem dX9_movedAhead_27 : decode cX9_movedAhead 27 = .ok (.aload_n 0, 1) := by decide +kernel
theorem dX9_movedAhead_28 : decode cX9_movedAhead 28 = .ok (.iload_n 1, 1) := by decide +kernel
theorem dX9_movedAhead_29 : decode cX9_movedAhead 29 = .ok (.aload_n 0, 1) := by decide +kernel
theorem dX9_movedAhead_30 : decode cX9_movedAhead 30 = .ok (.getfield 71, 3) := by decide +kernel
theorem dX9_movedAhead_33 : decode cX9_movedAhead 33 = .ok (.iload_n 2, 1) := by decide +kernel
theorem dX9_movedAhead_34 : decode cX9_movedAhead 34 = .ok (.i2l, 1) := by decide +kernel
theorem dX9_movedAhead_35 : decode cX9_movedAhead 35 = .ok (.ladd, 1) := by decide +kernel
theorem dX9_movedAhead_36 : decode cX9_movedAhead 36 = .ok (.invokevirtual 74, 3) := by decide +kernel
theorem dX9_movedAhead_39 : decode cX9_movedAhead 39 = .ok (.l2i, 1) := by decide +kernel
theorem dX9_movedAhead_40 : decode cX9_movedAhead 40 = .ok (.ireturn, 1) := by decide +kernel
theorem dX9_movedByBeats_0 : decode cX9_movedByBeats 0 = .ok (.aload_n 0, 1) := by decide +kernel
theorem dX9_movedByBeats_1 : decode cX9_movedByBeats 1 = .ok (.iload_n 1, 1) := by decide +kernel
theorem dX9_movedByBeats_2 : decode cX9_movedByBeats 2 = .ok (.iload_n 2, 1) := by decide +kernel
theorem dX9_movedByBeats_3 : decode cX9_movedByBeats 3 = .ok (.invokevirtual 84, 3) := by decide +kernel
theorem dX9_movedByBeats_6 : decode cX9_movedByBeats 6 = .ok (.ireturn, 1) := by decide +kernel
theorem dX9_setBeat_0 : decode cX9_setBeat 0 = .ok (.iload_n 1, 1) := by decide +kernel
theorem dX9_setBeat_1 : decode cX9_setBeat 1 = .ok (.iconst 1, 1) := by decide +kernel
theorem dX9_setBeat_2 : decode cX9_setBeat 2 = .ok (.bipush 20, 2) := by decide +kernel
theorem dX9_setBeat_4 : decode cX9_setBeat 4 = .ok (.invokestatic 63, 3) := by decide +kernel
theorem dX9_setBeat_7 : decode cX9_setBeat 7 = .ok (.ifCond .eq 13, 3) := by decide +kernel
theorem dX9_setBeat_10 : decode cX9_setBeat 10 = .ok (.iload_n 2, 1) := by decide +kernel
theorem dX9_setBeat_11 : decode cX9_setBeat 11 = .ok (.iconst 1, 1) := by decide +kernel
theorem dX9_setBeat_12 : decode cX9_setBeat 12 = .ok (.bipush 20, 2) := by decide +kernel
theorem dX9_setBeat_14 : decode cX9_setBeat 14 = .ok (.invokestatic 63, 3) := by decide +kernel
theorem dX9_setBeat_17 : decode cX9_setBeat 17 = .ok (.ifCond .ne 9, 3) := by decide +kernel
theorem dX9_setBeat_20 : decode cX9_setBeat 20 = .ok (.aload_n 0, 1) := by decide +kernel
theorem dX9_setBeat_21 : decode cX9_setBeat 21 = .ok (.iconst 1, 1) := by decide +kernel
theorem dX9_setBeat_22 : decode cX9_setBeat 22 = .ok (.invokevirtual 67, 3) := by decide +kernel
theorem dX9_setBeat_25 : decode cX9_setBeat 25 = .ok (.ireturn, 1) := by decide +kernel
theorem dX9_setBeat_26 : decode cX9_setBeat 26 = .ok (.aload_n 0, 1) := by decide +kernel
theorem dX9_setBeat_27 : decode cX9_setBeat 27 = .ok (.iconst 0, 1) := by decide +kernel
theorem dX9_setBeat_28 : decode cX9_setBeat 28 = .ok (.putfield 60, 3) := by decide +kernel
theorem dX9_setBeat_31 : decode cX9_setBeat 31 = .ok (.aload_n 0, 1) := by decide +kernel
theorem dX9_setBeat_32 : decode cX9_setBeat 32 = .ok (.getfield 13, 3) := by decide +kernel
theorem dX9_setBeat_35 : decode cX9_setBeat 35 = .ok (.istore_n 3, 1) := by decide +kernel
theorem dX9_setBeat_36 : decode cX9_setBeat 36 = .ok (.aload_n 0, 1) := by decide +kernel
theorem dX9_setBeat_37 : decode cX9_setBeat 37 = .ok (.iload_n 1, 1) := by decide +kernel
theorem dX9_setBeat_38 : decode cX9_setBeat 38 = .ok (.putfield 13, 3) := by decide +kernel
theorem dX9_setBeat_41 : decode cX9_setBeat 41 = .ok (.aload_n 0, 1) := by decide +kernel
theorem dX9_setBeat_42 : decode cX9_setBeat 42 = .ok (.iload_n 2, 1) := by decide +kernel
theorem dX9_setBeat_43 : decode cX9_setBeat 43 = .ok (.putfield 16, 3) := by decide +kernel
theorem dX9_setBeat_46 : decode cX9_setBeat 46 = .ok (.aload_n 0, 1) := by decide +kernel
theorem dX9_setBeat_47 : decode cX9_setBeat 47 = .ok (.iconst 0, 1) := by decide +kernel
theorem dX9_setBeat_48 : decode cX9_setBeat 48 = .ok (.putfield 88, 3) := by decide +kernel
theorem dX9_setBeat_51 : decode cX9_setBeat 51 = .ok (.iload_n 3, 1) := by decide +kernel
theorem dX9_setBeat_52 : decode cX9_setBeat 52 = .ok (.ireturn, 1) := by decide +kernel
theorem dX9_isSilent_0 : decode cX9_isSilent 0 = .ok (.aload_n 0, 1) := by decide +kernel
theorem dX9_isSilent_1 : decode cX9_isSilent 1 = .ok (.getfield 91, 3) := by decide +kernel
theorem dX9_isSilent_4 : decode cX9_isSilent 4 = .ok (.aload_n 0, 1) := by decide +kernel
theorem dX9_isSilent_5 : decode cX9_isSilent 5 = .ok (.getfield 94, 3) := by decide +kernel
theorem dX9_isSilent_8 : decode cX9_isSilent 8 = .ok (.if_icmp .gt 27, 3) := by decide +kernel
theorem dX9_isSilent_11 : decode cX9_isSilent 11 = .ok (.iload_n 1, 1) := by decide +kernel
theorem dX9_isSilent_12 : decode cX9_isSilent 12 = .ok (.aload_n 0, 1) := by decide +kernel
theorem dX9_isSilent_13 : decode cX9_isSilent 13 = .ok (.getfield 91, 3) := by decide +kernel
theorem dX9_isSilent_16 : decode cX9_isSilent 16 = .ok (.if_icmp .lt 15, 3) := by decide +kernel
theorem dX9_isSilent_19 : decode cX9_isSilent 19 = .ok (.iload_n 1, 1) := by decide +kernel
theorem dX9_isSilent_20 : decode cX9_isSilent 20 = .ok (.aload_n 0, 1) := by decide +kernel
theorem dX9_isSilent_21 : decode cX9_isSilent 21 = .ok (.getfield 94, 3) := by decide +kernel
theorem dX9_isSilent_24 : decode cX9_isSilent 24 = .ok (.if_icmp .ge 7, 3) := by decide +kernel
theorem dX9_isSilent_27 : decode cX9_isSilent 27 = .ok (.iconst 1, 1) := by decide +kernel
theorem dX9_isSilent_28 : decode cX9_isSilent 28 = .ok (.goto 28, 3) := by decide +kernel
theorem dX9_isSilent_31 : decode cX9_isSilent 31 = .ok (.iconst 0, 1) := by decide +kernel
theorem dX9_isSilent_32 : decode cX9_isSilent 32 = .ok (.goto 24, 3) := by decide +kernel
theorem dX9_isSilent_35 : decode cX9_isSilent 35 = .ok (.iload_n 1, 1) := by decide +kernel
theorem dX9_isSilent_36 : decode cX9_isSilent 36 = .ok (.aload_n 0, 1) := by decide +kernel
theorem dX9_isSilent_37 : decode cX9_isSilent 37 = .ok (.getfield 91, 3) := by decide +kernel
theorem dX9_isSilent_40 : decode cX9_isSilent 40 = .ok (.if_icmp .ge 11, 3) := by decide +kernel
theorem dX9_isSilent_43 : decode cX9_isSilent 43 = .ok (.iload_n 1, 1) := by decide +kernel
theorem dX9_isSilent_44 : decode cX9_isSilent 44 = .ok (.aload_n 0, 1) := by decide +kernel
theorem dX9_isSilent_45 : decode cX9_isSilent 45 = .ok (.getfield 94, 3) := by decide +kernel
theorem dX9_isSilent_48 : decode cX9_isSilent 48 = .ok (.if_icmp .ge 7, 3) := by decide +kernel
theorem dX9_isSilent_51 : decode cX9_isSilent 51 = .ok (.iconst 1, 1) := by decide +kernel
theorem dX9_isSilent_52 : decode cX9_isSilent 52 = .ok (.goto 4, 3) := by decide +kernel
theorem dX9_isSilent_55 : decode cX9_isSilent 55 = .ok (.iconst 0, 1) := by decide +kernel
theorem dX9_isSilent_56 : decode cX9_isSilent 56 = .ok (.ireturn, 1) := by decide +kernel
theorem dX9_rings_0 : decode cX9_rings 0 = .ok (.aload_n 0, 1) := by decide +kernel
theorem dX9_rings_1 : decode cX9_rings 1 = .ok (.getfield 97, 3) := by decide +kernel
theorem dX9_rings_4 : decode cX9_rings 4 = .ok (.ifCond .eq 13, 3) := by decide +kernel
theorem dX9_rings_7 : decode cX9_rings 7 = .ok (.aload_n 0, 1) := by decide +kernel
theorem dX9_rings_8 : decode cX9_rings 8 = .ok (.getfield 39, 3) := by decide +kernel
theorem dX9_rings_11 : decode cX9_rings 11 = .ok (.iload_n 1, 1) := by decide +kernel
theorem dX9_rings_12 : decode cX9_rings 12 = .ok (.dup2, 1) := by decide +kernel
theorem dX9_rings_13 : decode cX9_rings 13 = .ok (.iaload, 1) := by decide +kernel
theorem dX9_rings_14 : decode cX9_rings 14 = .ok (.iload_n 2, 1) := by decide +kernel
theorem dX9_rings_15 : decode cX9_rings 15 = .ok (.iadd, 1) := by decide +kernel
theorem dX9_rings_16 : decode cX9_rings 16 = .ok (.iastore, 1) := by decide +kernel
theorem dX9_rings_17 : decode cX9_rings 17 = .ok (.iload_n 2, 1) := by decide +kernel
theorem dX9_rings_18 : decode cX9_rings 18 = .ok (.ireturn, 1) := by decide +kernel
theorem dX9_plays_0 : decode cX9_plays 0 = .ok (.iconst 0, 1) := by decide +kernel
theorem dX9_plays_1 : decode cX9_plays 1 = .ok (.istore_n 2, 1) := by decide +kernel
theorem dX9_plays_2 : decode cX9_plays 2 = .ok (.iconst 0, 1) := by decide +kernel
theorem dX9_plays_3 : decode cX9_plays 3 = .ok (.istore_n 3, 1) := by decide +kernel
theorem dX9_plays_4 : decode cX9_plays 4 = .ok (.iload_n 3, 1) := by decide +kernel
theorem dX9_plays_5 : decode cX9_plays 5 = .ok (.bipush 32, 2) := by decide +kernel
theorem dX9_plays_7 : decode cX9_plays 7 = .ok (.if_icmp .ge 55, 3) := by decide +kernel
theorem dX9_plays_10 : decode cX9_plays 10 = .ok (.iconst 1, 1) := by decide +kernel
theorem dX9_plays_11 : decode cX9_plays 11 = .ok (.istore 4, 2) := by decide +kernel
theorem dX9_plays_13 : decode cX9_plays 13 = .ok (.iload 4, 2) := by decide +kernel
theorem dX9_plays_15 : decode cX9_plays 15 = .ok (.bipush 8, 2) := by decide +kernel
theorem dX9_plays_17 : decode cX9_plays 17 = .ok (.if_icmp .gt 39, 3) := by decide +kernel
theorem dX9_plays_20 : decode cX9_plays 20 = .ok (.aload_n 0, 1) := by decide +kernel
theorem dX9_plays_21 : decode cX9_plays 21 = .ok (.getfield 33, 3) := by decide +kernel
theorem dX9_plays_24 : decode cX9_plays 24 = .ok (.bipush 32, 2) := by decide +kernel
theorem dX9_plays_26 : decode cX9_plays 26 = .ok (.iload_n 1, 1) := by decide +kernel
theorem dX9_plays_27 : decode cX9_plays 27 = .ok (.imul, 1) := by decide +kernel
theorem dX9_plays_28 : decode cX9_plays 28 = .ok (.iload_n 3, 1) := by decide +kernel
theorem dX9_plays_29 : decode cX9_plays 29 = .ok (.iadd, 1) := by decide +kernel
theorem dX9_plays_30 : decode cX9_plays 30 = .ok (.iaload, 1) := by decide +kernel
theorem dX9_plays_31 : decode cX9_plays 31 = .ok (.iload 4, 2) := by decide +kernel
theorem dX9_plays_33 : decode cX9_plays 33 = .ok (.ishr, 1) := by decide +kernel
theorem dX9_plays_34 : decode cX9_plays 34 = .ok (.iconst 1, 1) := by decide +kernel
theorem dX9_plays_35 : decode cX9_plays 35 = .ok (.iand, 1) := by decide +kernel
theorem dX9_plays_36 : decode cX9_plays 36 = .ok (.iconst 1, 1) := by decide +kernel
theorem dX9_plays_37 : decode cX9_plays 37 = .ok (.if_icmp .ne 13, 3) := by decide +kernel
theorem dX9_plays_40 : decode cX9_plays 40 = .ok (.iload_n 2, 1) := by decide +kernel
theorem dX9_plays_41 : decode cX9_plays 41 = .ok (.aload_n 0, 1) := by decide +kernel
theorem dX9_plays_42 : decode cX9_plays 42 = .ok (.iload 4, 2) := by decide +kernel
theorem dX9_plays_44 : decode cX9_plays 44 = .ok (.iconst 1, 1) := by decide +kernel
theorem dX9_plays_45 : decode cX9_plays 45 = .ok (.invokevirtual 100, 3) := by decide +kernel
theorem dX9_plays_48 : decode cX9_plays 48 = .ok (.iadd, 1) := by decide +kernel
theorem dX9_plays_49 : decode cX9_plays 49 = .ok (.istore_n 2, 1) := by decide +kernel
theorem dX9_plays_50 : decode cX9_plays 50 = .ok (.iinc 4 1, 3) := by decide +kernel
theorem dX9_plays_53 : decode cX9_plays 53 = .ok (.goto (-40), 3) := by decide +kernel
theorem dX9_plays_56 : decode cX9_plays 56 = .ok (.iinc 3 1, 3) := by decide +kernel
theorem dX9_plays_59 : decode cX9_plays 59 = .ok (.goto (-55), 3) := by decide +kernel
theorem dX9_plays_62 : decode cX9_plays 62 = .ok (.iload_n 2, 1) := by decide +kernel
theorem dX9_plays_63 : decode cX9_plays 63 = .ok (.ireturn, 1) := by decide +kernel
theorem dX9_strikes_0 : decode cX9_strikes 0 = .ok (.iload_n 1, 1) := by decide +kernel
theorem dX9_strikes_1 : decode cX9_strikes 1 = .ok (.iconst 4, 1) := by decide +kernel
theorem dX9_strikes_2 : decode cX9_strikes 2 = .ok (.idiv, 1) := by decide +kernel
theorem dX9_strikes_3 : decode cX9_strikes 3 = .ok (.bipush 24, 2) := by decide +kernel
theorem dX9_strikes_5 : decode cX9_strikes 5 = .ok (.irem, 1) := by decide +kernel
theorem dX9_strikes_6 : decode cX9_strikes 6 = .ok (.istore_n 2, 1) := by decide +kernel
theorem dX9_strikes_7 : decode cX9_strikes 7 = .ok (.iload_n 1, 1) := by decide +kernel
theorem dX9_strikes_8 : decode cX9_strikes 8 = .ok (.iconst 4, 1) := by decide +kernel
theorem dX9_strikes_9 : decode cX9_strikes 9 = .ok (.irem, 1) := by decide +kernel
theorem dX9_strikes_10 : decode cX9_strikes 10 = .ok (.istore_n 3, 1) := by decide +kernel
theorem dX9_strikes_11 : decode cX9_strikes 11 = .ok (.iconst 0, 1) := by decide +kernel
theorem dX9_strikes_12 : decode cX9_strikes 12 = .ok (.istore 4, 2) := by decide +kernel
theorem dX9_strikes_14 : decode cX9_strikes 14 = .ok (.aload_n 0, 1) := by decide +kernel
theorem dX9_strikes_15 : decode cX9_strikes 15 = .ok (.iload_n 2, 1) := by decide +kernel
theorem dX9_strikes_16 : decode cX9_strikes 16 = .ok (.invokevirtual 103, 3) := by decide +kernel
theorem dX9_strikes_19 : decode cX9_strikes 19 = .ok (.ifCond .ne 14, 3) := by decide +kernel
theorem dX9_strikes_22 : decode cX9_strikes 22 = .ok (.iload_n 3, 1) := by decide +kernel
theorem dX9_strikes_23 : decode cX9_strikes 23 = .ok (.ifCond .le 12, 3) := by decide +kernel
theorem dX9_strikes_26 : decode cX9_strikes 26 = .ok (.aload_n 0, 1) := by decide +kernel
theorem dX9_strikes_27 : decode cX9_strikes 27 = .ok (.getfield 22, 3) := by decide +kernel
theorem dX9_strikes_30 : decode cX9_strikes 30 = .ok (.ifCond .ne 5, 3) := by decide +kernel
theorem dX9_strikes_33 : decode cX9_strikes 33 = .ok (.iconst 0, 1) := by decide +kernel
theorem dX9_strikes_34 : decode cX9_strikes 34 = .ok (.ireturn, 1) := by decide +kernel
theorem dX9_strikes_35 : decode cX9_strikes 35 = .ok (.iload_n 3, 1) := by decide +kernel
theorem dX9_strikes_36 : decode cX9_strikes 36 = .ok (.ifCond .le 14, 3) := by decide +kernel
theorem dX9_strikes_39 : decode cX9_strikes 39 = .ok (.aload_n 0, 1) := by decide +kernel
theorem dX9_strikes_40 : decode cX9_strikes 40 = .ok (.iconst 1, 1) := by decide +kernel
theorem dX9_strikes_41 : decode cX9_strikes 41 = .ok (.iload_n 3, 1) := by decide +kernel
theorem dX9_strikes_42 : decode cX9_strikes 42 = .ok (.invokevirtual 100, 3) := by decide +kernel
theorem dX9_strikes_45 : decode cX9_strikes 45 = .ok (.istore 4, 2) := by decide +kernel
theorem dX9_strikes_47 : decode cX9_strikes 47 = .ok (.goto 50, 3) := by decide +kernel
theorem dX9_strikes_50 : decode cX9_strikes 50 = .ok (.aload_n 0, 1) := by decide +kernel
theorem dX9_strikes_51 : decode cX9_strikes 51 = .ok (.iconst 0, 1) := by decide +kernel
theorem dX9_strikes_52 : decode cX9_strikes 52 = .ok (.iload_n 2, 1) := by decide +kernel
theorem dX9_strikes_53 : decode cX9_strikes 53 = .ok (.bipush 12, 2) := by decide +kernel
theorem dX9_strikes_55 : decode cX9_strikes 55 = .ok (.irem, 1) := by decide +kernel
theorem dX9_strikes_56 : decode cX9_strikes 56 = .ok (.ifCond .ne 8, 3) := by decide +kernel
theorem dX9_strikes_59 : decode cX9_strikes 59 = .ok (.bipush 12, 2) := by decide +kernel
theorem dX9_strikes_61 : decode cX9_strikes 61 = .ok (.goto 7, 3) := by decide +kernel
theorem dX9_strikes_64 : decode cX9_strikes 64 = .ok (.iload_n 2, 1) := by decide +kernel
theorem dX9_strikes_65 : decode cX9_strikes 65 = .ok (.bipush 12, 2) := by decide +kernel
theorem dX9_strikes_67 : decode cX9_strikes 67 = .ok (.irem, 1) := by decide +kernel
theorem dX9_strikes_68 : decode cX9_strikes 68 = .ok (.invokevirtual 100, 3) := by decide +kernel
theorem dX9_strikes_71 : decode cX9_strikes 71 = .ok (.istore 4, 2) := by decide +kernel
theorem dX9_strikes_73 : decode cX9_strikes 73 = .ok (.aload_n 0, 1) := by decide +kernel
theorem dX9_strikes_74 : decode cX9_strikes 74 = .ok (.getfield 36, 3) := by decide +kernel
theorem dX9_strikes_77 : decode cX9_strikes 77 = .ok (.iload_n 2, 1) := by decide +kernel
theorem dX9_strikes_78 : decode cX9_strikes 78 = .ok (.iaload, 1) := by decide +kernel
theorem dX9_strikes_79 : decode cX9_strikes 79 = .ok (.ifCond .lt 18, 3) := by decide +kernel
theorem dX9_strikes_82 : decode cX9_strikes 82 = .ok (.iload 4, 2) := by decide +kernel
theorem dX9_strikes_84 : decode cX9_strikes 84 = .ok (.aload_n 0, 1) := by decide +kernel
theorem dX9_strikes_85 : decode cX9_strikes 85 = .ok (.aload_n 0, 1) := by decide +kernel
theorem dX9_strikes_86 : decode cX9_strikes 86 = .ok (.getfield 36, 3) := by decide +kernel
theorem dX9_strikes_89 : decode cX9_strikes 89 = .ok (.iload_n 2, 1) := by decide +kernel
theorem dX9_strikes_90 : decode cX9_strikes 90 = .ok (.iaload, 1) := by decide +kernel
theorem dX9_strikes_91 : decode cX9_strikes 91 = .ok (.invokevirtual 106, 3) := by decide +kernel
theorem dX9_strikes_94 : decode cX9_strikes 94 = .ok (.iadd, 1) := by decide +kernel
theorem dX9_strikes_95 : decode cX9_strikes 95 = .ok (.istore 4, 2) := by decide +kernel
theorem dX9_strikes_97 : decode cX9_strikes 97 = .ok (.aload_n 0, 1) := by decide +kernel
theorem dX9_strikes_98 : decode cX9_strikes 98 = .ok (.getfield 97, 3) := by decide +kernel
theorem dX9_strikes_101 : decode cX9_strikes 101 = .ok (.ifCond .eq 40, 3) := by decide +kernel
theorem dX9_strikes_104 : decode cX9_strikes 104 = .ok (.aload_n 0, 1) := by decide +kernel
theorem dX9_strikes_105 : decode cX9_strikes 105 = .ok (.getfield 42, 3) := by decide +kernel
theorem dX9_strikes_108 : decode cX9_strikes 108 = .ok (.aload_n 0, 1) := by decide +kernel
theorem dX9_strikes_109 : decode cX9_strikes 109 = .ok (.getfield 109, 3) := by decide +kernel
theorem dX9_strikes_112 : decode cX9_strikes 112 = .ok (.bipush 40, 2) := by decide +kernel
theorem dX9_strikes_114 : decode cX9_strikes 114 = .ok (.irem, 1) := by decide +kernel
theorem dX9_strikes_115 : decode cX9_strikes 115 = .ok (.iload_n 1, 1) := by decide +kernel
theorem dX9_strikes_116 : decode cX9_strikes 116 = .ok (.iastore, 1) := by decide +kernel
theorem dX9_strikes_117 : decode cX9_strikes 117 = .ok (.aload_n 0, 1) := by decide +kernel
theorem dX9_strikes_118 : decode cX9_strikes 118 = .ok (.getfield 45, 3) := by decide +kernel
theorem dX9_strikes_121 : decode cX9_strikes 121 = .ok (.aload_n 0, 1) := by decide +kernel
theorem dX9_strikes_122 : decode cX9_strikes 122 = .ok (.getfield 109, 3) := by decide +kernel
theorem dX9_strikes_125 : decode cX9_strikes 125 = .ok (.bipush 40, 2) := by decide +kernel
theorem dX9_strikes_127 : decode cX9_strikes 127 = .ok (.irem, 1) := by decide +kernel
theorem dX9_strikes_128 : decode cX9_strikes 128 = .ok (.iload 4, 2) := by decide +kernel
theorem dX9_strikes_130 : decode cX9_strikes 130 = .ok (.iastore, 1) := by decide +kernel
theorem dX9_strikes_131 : decode cX9_strikes 131 = .ok (.aload_n 0, 1) := by decide +kernel
theorem dX9_strikes_132 : decode cX9_strikes 132 = .ok (.dup, 1) := by decide +kernel
theorem dX9_strikes_133 : decode cX9_strikes 133 = .ok (.getfield 109, 3) := by decide +kernel
theorem dX9_strikes_136 : decode cX9_strikes 136 = .ok (.iconst 1, 1) := by decide +kernel
theorem dX9_strikes_137 : decode cX9_strikes 137 = .ok (.iadd, 1) := by decide +kernel
theorem dX9_strikes_138 : decode cX9_strikes 138 = .ok (.putfield 109, 3) := by decide +kernel
theorem dX9_strikes_141 : decode cX9_strikes 141 = .ok (.iload 4, 2) := by decide +kernel
theorem dX9_strikes_143 : decode cX9_strikes 143 = .ok (.ireturn, 1) := by decide +kernel
theorem dX9_goes_0 : decode cX9_goes 0 = .ok (.iconst 0, 1) := by decide +kernel
theorem dX9_goes_1 : decode cX9_goes 1 = .ok (.istore_n 3, 1) := by decide +kernel
theorem dX9_goes_2 : decode cX9_goes 2 = .ok (.lload_n 1, 1) := by decide +kernel
theorem dX9_goes_3 : decode cX9_goes 3 = .ok (.lstore 4, 2) := by decide +kernel
theorem dX9_goes_5 : decode cX9_goes 5 = .ok (.lload 4, 2) := by decide +kernel
theorem dX9_goes_7 : decode cX9_goes 7 = .ok (.lconst 0, 1) := by decide +kernel
theorem dX9_goes_8 : decode cX9_goes 8 = .ok (.lcmp, 1) := by decide +kernel
theorem dX9_goes_9 : decode cX9_goes 9 = .ok (.ifCond .le 175, 3) := by decide +kernel
theorem dX9_goes_12 : decode cX9_goes 12 = .ok (.bipush 60, 2) := by decide +kernel
theorem dX9_goes_14 : decode cX9_goes 14 = .ok (.aload_n 0, 1) := by decide +kernel
theorem dX9_goes_15 : decode cX9_goes 15 = .ok (.getfield 112, 3) := by decide +kernel
theorem dX9_goes_18 : decode cX9_goes 18 = .ok (.bipush 60, 2) := by decide +kernel
theorem dX9_goes_20 : decode cX9_goes 20 = .ok (.irem, 1) := by decide +kernel
theorem dX9_goes_21 : decode cX9_goes 21 = .ok (.isub, 1) := by decide +kernel
theorem dX9_goes_22 : decode cX9_goes 22 = .ok (.istore 6, 2) := by decide +kernel
theorem dX9_goes_24 : decode cX9_goes 24 = .ok (.lload 4, 2) := by decide +kernel
theorem dX9_goes_26 : decode cX9_goes 26 = .ok (.iload 6, 2) := by decide +kernel
theorem dX9_goes_28 : decode cX9_goes 28 = .ok (.i2l, 1) := by decide +kernel
theorem dX9_goes_29 : decode cX9_goes 29 = .ok (.lcmp, 1) := by decide +kernel
theorem dX9_goes_30 : decode cX9_goes 30 = .ok (.ifCond .ge 17, 3) := by decide +kernel
theorem dX9_goes_33 : decode cX9_goes 33 = .ok (.aload_n 0, 1) := by decide +kernel
theorem dX9_goes_34 : decode cX9_goes 34 = .ok (.dup, 1) := by decide +kernel
theorem dX9_goes_35 : decode cX9_goes 35 = .ok (.getfield 112, 3) := by decide +kernel
theorem dX9_goes_38 : decode cX9_goes 38 = .ok (.lload 4, 2) := by decide +kernel
theorem dX9_goes_40 : decode cX9_goes 40 = .ok (.l2i, 1) := by decide +kernel
theorem dX9_goes_41 : decode cX9_goes 41 = .ok (.iadd, 1) := by decide +kernel
theorem dX9_goes_42 : decode cX9_goes 42 = .ok (.putfield 112, 3) := by decide +kernel
theorem dX9_goes_45 : decode cX9_goes 45 = .ok (.iload_n 3, 1) := by decide +kernel
theorem dX9_goes_46 : decode cX9_goes 46 = .ok (.ireturn, 1) := by decide +kernel
theorem dX9_goes_47 : decode cX9_goes 47 = .ok (.lload 4, 2) := by decide +kernel
theorem dX9_goes_49 : decode cX9_goes 49 = .ok (.iload 6, 2) := by decide +kernel
theorem dX9_goes_51 : decode cX9_goes 51 = .ok (.i2l, 1) := by decide +kernel
theorem dX9_goes_52 : decode cX9_goes 52 = .ok (.lsub, 1) := by decide +kernel
theorem dX9_goes_53 : decode cX9_goes 53 = .ok (.lstore 4, 2) := by decide +kernel
theorem dX9_goes_55 : decode cX9_goes 55 = .ok (.aload_n 0, 1) := by decide +kernel
theorem dX9_goes_56 : decode cX9_goes 56 = .ok (.dup, 1) := by decide +kernel
theorem dX9_goes_57 : decode cX9_goes 57 = .ok (.getfield 112, 3) := by decide +kernel
theorem dX9_goes_60 : decode cX9_goes 60 = .ok (.iload 6, 2) := by decide +kernel
theorem dX9_goes_62 : decode cX9_goes 62 = .ok (.iadd, 1) := by decide +kernel
theorem dX9_goes_63 : decode cX9_goes 63 = .ok (.putfield 112, 3) := by decide +kernel
theorem dX9_goes_66 : decode cX9_goes 66 = .ok (.aload_n 0, 1) := by decide +kernel
theorem dX9_goes_67 : decode cX9_goes 67 = .ok (.getfield 112, 3) := by decide +kernel
theorem dX9_goes_70 : decode cX9_goes 70 = .ok (.sipush 900, 3) := by decide +kernel
theorem dX9_goes_73 : decode cX9_goes 73 = .ok (.irem, 1) := by decide +kernel
theorem dX9_goes_74 : decode cX9_goes 74 = .ok (.ifCond .ne 41, 3) := by decide +kernel
theorem dX9_goes_77 : decode cX9_goes 77 = .ok (.aload_n 0, 1) := by decide +kernel
theorem dX9_goes_78 : decode cX9_goes 78 = .ok (.getfield 112, 3) := by decide +kernel
theorem dX9_goes_81 : decode cX9_goes 81 = .ok (.sipush 900, 3) := by decide +kernel
theorem dX9_goes_84 : decode cX9_goes 84 = .ok (.idiv, 1) := by decide +kernel
theorem dX9_goes_85 : decode cX9_goes 85 = .ok (.aload_n 0, 1) := by decide +kernel
theorem dX9_goes_86 : decode cX9_goes 86 = .ok (.getfield 115, 3) := by decide +kernel
theorem dX9_goes_89 : decode cX9_goes 89 = .ok (.if_icmp .le 26, 3) := by decide +kernel
theorem dX9_goes_92 : decode cX9_goes 92 = .ok (.aload_n 0, 1) := by decide +kernel
theorem dX9_goes_93 : decode cX9_goes 93 = .ok (.aload_n 0, 1) := by decide +kernel
theorem dX9_goes_94 : decode cX9_goes 94 = .ok (.getfield 112, 3) := by decide +kernel
theorem dX9_goes_97 : decode cX9_goes 97 = .ok (.sipush 900, 3) := by decide +kernel
theorem dX9_goes_100 : decode cX9_goes 100 = .ok (.idiv, 1) := by decide +kernel
theorem dX9_goes_101 : decode cX9_goes 101 = .ok (.putfield 115, 3) := by decide +kernel
theorem dX9_goes_104 : decode cX9_goes 104 = .ok (.iload_n 3, 1) := by decide +kernel
theorem dX9_goes_105 : decode cX9_goes 105 = .ok (.aload_n 0, 1) := by decide +kernel
theorem dX9_goes_106 : decode cX9_goes 106 = .ok (.aload_n 0, 1) := by decide +kernel
theorem dX9_goes_107 : decode cX9_goes 107 = .ok (.getfield 115, 3) := by decide +kernel
theorem dX9_goes_110 : decode cX9_goes 110 = .ok (.invokevirtual 118, 3) := by decide +kernel
theorem dX9_goes_113 : decode cX9_goes 113 = .ok (.iadd, 1) := by decide +kernel
theorem dX9_goes_114 : decode cX9_goes 114 = .ok (.istore_n 3, 1) := by decide +kernel
theorem dX9_goes_115 : decode cX9_goes 115 = .ok (.aload_n 0, 1) := by decide +kernel
theorem dX9_goes_116 : decode cX9_goes 116 = .ok (.getfield 121, 3) := by decide +kernel
theorem dX9_goes_119 : decode cX9_goes 119 = .ok (.aload_n 0, 1) := by decide +kernel
theorem dX9_goes_120 : decode cX9_goes 120 = .ok (.getfield 19, 3) := by decide +kernel
theorem dX9_goes_123 : decode cX9_goes 123 = .ok (.if_icmp .le 10, 3) := by decide +kernel
theorem dX9_goes_126 : decode cX9_goes 126 = .ok (.aload_n 0, 1) := by decide +kernel
theorem dX9_goes_127 : decode cX9_goes 127 = .ok (.getfield 19, 3) := by decide +kernel
theorem dX9_goes_130 : decode cX9_goes 130 = .ok (.goto 27, 3) := by decide +kernel
theorem dX9_goes_133 : decode cX9_goes 133 = .ok (.aload_n 0, 1) := by decide +kernel
theorem dX9_goes_134 : decode cX9_goes 134 = .ok (.getfield 121, 3) := by decide +kernel
theorem dX9_goes_137 : decode cX9_goes 137 = .ok (.aload_n 0, 1) := by decide +kernel
theorem dX9_goes_138 : decode cX9_goes 138 = .ok (.getfield 19, 3) := by decide +kernel
theorem dX9_goes_141 : decode cX9_goes 141 = .ok (.ineg, 1) := by decide +kernel
theorem dX9_goes_142 : decode cX9_goes 142 = .ok (.if_icmp .ge 11, 3) := by decide +kernel
theorem dX9_goes_145 : decode cX9_goes 145 = .ok (.aload_n 0, 1) := by decide +kernel
theorem dX9_goes_146 : decode cX9_goes 146 = .ok (.getfield 19, 3) := by decide +kernel
theorem dX9_goes_149 : decode cX9_goes 149 = .ok (.ineg, 1) := by decide +kernel
theorem dX9_goes_150 : decode cX9_goes 150 = .ok (.goto 7, 3) := by decide +kernel
theorem dX9_goes_153 : decode cX9_goes 153 = .ok (.aload_n 0, 1) := by decide +kernel
theorem dX9_goes_154 : decode cX9_goes 154 = .ok (.getfield 121, 3) := by decide +kernel
theorem dX9_goes_157 : decode cX9_goes 157 = .ok (.istore 7, 2) := by decide +kernel
theorem dX9_goes_159 : decode cX9_goes 159 = .ok (.aload_n 0, 1) := by decide +kernel
theorem dX9_goes_160 : decode cX9_goes 160 = .ok (.dup, 1) := by decide +kernel
theorem dX9_goes_161 : decode cX9_goes 161 = .ok (.getfield 112, 3) := by decide +kernel
theorem dX9_goes_164 : decode cX9_goes 164 = .ok (.iload 7, 2) := by decide +kernel
theorem dX9_goes_166 : decode cX9_goes 166 = .ok (.iadd, 1) := by decide +kernel
theorem dX9_goes_167 : decode cX9_goes 167 = .ok (.putfield 112, 3) := by decide +kernel
theorem dX9_goes_170 : decode cX9_goes 170 = .ok (.aload_n 0, 1) := by decide +kernel
theorem dX9_goes_171 : decode cX9_goes 171 = .ok (.dup, 1) := by decide +kernel
theorem dX9_goes_172 : decode cX9_goes 172 = .ok (.getfield 121, 3) := by decide +kernel
theorem dX9_goes_175 : decode cX9_goes 175 = .ok (.iload 7, 2) := by decide +kernel
theorem dX9_goes_177 : decode cX9_goes 177 = .ok (.isub, 1) := by decide +kernel
theorem dX9_goes_178 : decode cX9_goes 178 = .ok (.putfield 121, 3) := by decide +kernel
theorem dX9_goes_181 : decode cX9_goes 181 = .ok (.goto (-176), 3) := by decide +kernel
theorem dX9_goes_184 : decode cX9_goes 184 = .ok (.iload_n 3, 1) := by decide +kernel
theorem dX9_goes_185 : decode cX9_goes 185 = .ok (.ireturn, 1) := by decide +kernel
theorem dX9_seconds_0 : decode cX9_seconds 0 = .ok (.aload_n 0, 1) := by decide +kernel
theorem dX9_seconds_1 : decode cX9_seconds 1 = .ok (.getfield 88, 3) := by decide +kernel
theorem dX9_seconds_4 : decode cX9_seconds 4 = .ok (.i2l, 1) := by decide +kernel
theorem dX9_seconds_5 : decode cX9_seconds 5 = .ok (.iload_n 1, 1) := by decide +kernel
theorem dX9_seconds_6 : decode cX9_seconds 6 = .ok (.i2l, 1) := by decide +kernel
theorem dX9_seconds_7 : decode cX9_seconds 7 = .ok (.aload_n 0, 1) := by decide +kernel
theorem dX9_seconds_8 : decode cX9_seconds 8 = .ok (.getfield 13, 3) := by decide +kernel
theorem dX9_seconds_11 : decode cX9_seconds 11 = .ok (.i2l, 1) := by decide +kernel
theorem dX9_seconds_12 : decode cX9_seconds 12 = .ok (.lmul, 1) := by decide +kernel
theorem dX9_seconds_13 : decode cX9_seconds 13 = .ok (.ladd, 1) := by decide +kernel
theorem dX9_seconds_14 : decode cX9_seconds 14 = .ok (.aload_n 0, 1) := by decide +kernel
theorem dX9_seconds_15 : decode cX9_seconds 15 = .ok (.getfield 16, 3) := by decide +kernel
theorem dX9_seconds_18 : decode cX9_seconds 18 = .ok (.i2l, 1) := by decide +kernel
theorem dX9_seconds_19 : decode cX9_seconds 19 = .ok (.ldiv, 1) := by decide +kernel
theorem dX9_seconds_20 : decode cX9_seconds 20 = .ok (.lreturn, 1) := by decide +kernel
theorem dX9_pass_0 : decode cX9_pass 0 = .ok (.iload_n 1, 1) := by decide +kernel
theorem dX9_pass_1 : decode cX9_pass 1 = .ok (.iconst 1, 1) := by decide +kernel
theorem dX9_pass_2 : decode cX9_pass 2 = .ok (.sipush 5000, 3) := by decide +kernel
theorem dX9_pass_5 : decode cX9_pass 5 = .ok (.invokestatic 63, 3) := by decide +kernel
theorem dX9_pass_8 : decode cX9_pass 8 = .ok (.ifCond .ne 9, 3) := by decide +kernel
theorem dX9_pass_11 : decode cX9_pass 11 = .ok (.aload_n 0, 1) := by decide +kernel
theorem dX9_pass_12 : decode cX9_pass 12 = .ok (.iconst 1, 1) := by decide +kernel
theorem dX9_pass_13 : decode cX9_pass 13 = .ok (.invokevirtual 67, 3) := by decide +kernel
theorem dX9_pass_16 : decode cX9_pass 16 = .ok (.ireturn, 1) := by decide +kernel
theorem dX9_pass_17 : decode cX9_pass 17 = .ok (.aload_n 0, 1) := by decide +kernel
theorem dX9_pass_18 : decode cX9_pass 18 = .ok (.iconst 0, 1) := by decide +kernel
theorem dX9_pass_19 : decode cX9_pass 19 = .ok (.putfield 60, 3) := by decide +kernel
theorem dX9_pass_22 : decode cX9_pass 22 = .ok (.aload_n 0, 1) := by decide +kernel
theorem dX9_pass_23 : decode cX9_pass 23 = .ok (.iload_n 1, 1) := by decide +kernel
theorem dX9_pass_24 : decode cX9_pass 24 = .ok (.invokevirtual 124, 3) := by decide +kernel
theorem dX9_pass_27 : decode cX9_pass 27 = .ok (.lstore_n 2, 1) := by decide +kernel
theorem dX9_pass_28 : decode cX9_pass 28 = .ok (.aload_n 0, 1) := by decide +kernel
theorem dX9_pass_29 : decode cX9_pass 29 = .ok (.aload_n 0, 1) := by decide +kernel
theorem dX9_pass_30 : decode cX9_pass 30 = .ok (.getfield 88, 3) := by decide +kernel
theorem dX9_pass_33 : decode cX9_pass 33 = .ok (.i2l, 1) := by decide +kernel
theorem dX9_pass_34 : decode cX9_pass 34 = .ok (.iload_n 1, 1) := by decide +kernel
theorem dX9_pass_35 : decode cX9_pass 35 = .ok (.i2l, 1) := by decide +kernel
theorem dX9_pass_36 : decode cX9_pass 36 = .ok (.aload_n 0, 1) := by decide +kernel
theorem dX9_pass_37 : decode cX9_pass 37 = .ok (.getfield 13, 3) := by decide +kernel
theorem dX9_pass_40 : decode cX9_pass 40 = .ok (.i2l, 1) := by decide +kernel
theorem dX9_pass_41 : decode cX9_pass 41 = .ok (.lmul, 1) := by decide +kernel
theorem dX9_pass_42 : decode cX9_pass 42 = .ok (.ladd, 1) := by decide +kernel
theorem dX9_pass_43 : decode cX9_pass 43 = .ok (.lload_n 2, 1) := by decide +kernel
theorem dX9_pass_44 : decode cX9_pass 44 = .ok (.aload_n 0, 1) := by decide +kernel
theorem dX9_pass_45 : decode cX9_pass 45 = .ok (.getfield 16, 3) := by decide +kernel
theorem dX9_pass_48 : decode cX9_pass 48 = .ok (.i2l, 1) := by decide +kernel
theorem dX9_pass_49 : decode cX9_pass 49 = .ok (.lmul, 1) := by decide +kernel
theorem dX9_pass_50 : decode cX9_pass 50 = .ok (.lsub, 1) := by decide +kernel
theorem dX9_pass_51 : decode cX9_pass 51 = .ok (.l2i, 1) := by decide +kernel
theorem dX9_pass_52 : decode cX9_pass 52 = .ok (.putfield 88, 3) := by decide +kernel
theorem dX9_pass_55 : decode cX9_pass 55 = .ok (.aload_n 0, 1) := by decide +kernel
theorem dX9_pass_56 : decode cX9_pass 56 = .ok (.dup, 1) := by decide +kernel
theorem dX9_pass_57 : decode cX9_pass 57 = .ok (.getfield 71, 3) := by decide +kernel
theorem dX9_pass_60 : decode cX9_pass 60 = .ok (.iload_n 1, 1) := by decide +kernel
theorem dX9_pass_61 : decode cX9_pass 61 = .ok (.i2l, 1) := by decide +kernel
theorem dX9_pass_62 : decode cX9_pass 62 = .ok (.ladd, 1) := by decide +kernel
theorem dX9_pass_63 : decode cX9_pass 63 = .ok (.putfield 71, 3) := by decide +kernel
theorem dX9_pass_66 : decode cX9_pass 66 = .ok (.aload_n 0, 1) := by decide +kernel
theorem dX9_pass_67 : decode cX9_pass 67 = .ok (.iconst 1, 1) := by decide +kernel
theorem dX9_pass_68 : decode cX9_pass 68 = .ok (.putfield 97, 3) := by decide +kernel
theorem dX9_pass_71 : decode cX9_pass 71 = .ok (.aload_n 0, 1) := by decide +kernel
theorem dX9_pass_72 : decode cX9_pass 72 = .ok (.lload_n 2, 1) := by decide +kernel
theorem dX9_pass_73 : decode cX9_pass 73 = .ok (.invokevirtual 128, 3) := by decide +kernel
theorem dX9_pass_76 : decode cX9_pass 76 = .ok (.ireturn, 1) := by decide +kernel
theorem dX9_beats_0 : decode cX9_beats 0 = .ok (.aload_n 0, 1) := by decide +kernel
theorem dX9_beats_1 : decode cX9_beats 1 = .ok (.getfield 71, 3) := by decide +kernel
theorem dX9_beats_4 : decode cX9_beats 4 = .ok (.lreturn, 1) := by decide +kernel
theorem dX9_shown_0 : decode cX9_shown 0 = .ok (.aload_n 0, 1) := by decide +kernel
theorem dX9_shown_1 : decode cX9_shown 1 = .ok (.getfield 112, 3) := by decide +kernel
theorem dX9_shown_4 : decode cX9_shown 4 = .ok (.ireturn, 1) := by decide +kernel
theorem dX9_hour_0 : decode cX9_hour 0 = .ok (.aload_n 0, 1) := by decide +kernel
theorem dX9_hour_1 : decode cX9_hour 1 = .ok (.getfield 112, 3) := by decide +kernel
theorem dX9_hour_4 : decode cX9_hour 4 = .ok (.sipush 3600, 3) := by decide +kernel
theorem dX9_hour_7 : decode cX9_hour 7 = .ok (.idiv, 1) := by decide +kernel
theorem dX9_hour_8 : decode cX9_hour 8 = .ok (.bipush 24, 2) := by decide +kernel
theorem dX9_hour_10 : decode cX9_hour 10 = .ok (.irem, 1) := by decide +kernel
theorem dX9_hour_11 : decode cX9_hour 11 = .ok (.ireturn, 1) := by decide +kernel
theorem dX9_minute_0 : decode cX9_minute 0 = .ok (.aload_n 0, 1) := by decide +kernel
theorem dX9_minute_1 : decode cX9_minute 1 = .ok (.getfield 112, 3) := by decide +kernel
theorem dX9_minute_4 : decode cX9_minute 4 = .ok (.bipush 60, 2) := by decide +kernel
theorem dX9_minute_6 : decode cX9_minute 6 = .ok (.idiv, 1) := by decide +kernel
theorem dX9_minute_7 : decode cX9_minute 7 = .ok (.bipush 60, 2) := by decide +kernel
theorem dX9_minute_9 : decode cX9_minute 9 = .ok (.irem, 1) := by decide +kernel
theorem dX9_minute_10 : decode cX9_minute 10 = .ok (.ireturn, 1) := by decide +kernel
theorem dX9_owe_0 : decode cX9_owe 0 = .ok (.iload_n 1, 1) := by decide +kernel
theorem dX9_owe_1 : decode cX9_owe 1 = .ok (.sipush (-600), 3) := by decide +kernel
theorem dX9_owe_4 : decode cX9_owe 4 = .ok (.sipush 600, 3) := by decide +kernel
theorem dX9_owe_7 : decode cX9_owe 7 = .ok (.invokestatic 63, 3) := by decide +kernel
theorem dX9_owe_10 : decode cX9_owe 10 = .ok (.ifCond .eq 21, 3) := by decide +kernel
theorem dX9_owe_13 : decode cX9_owe 13 = .ok (.aload_n 0, 1) := by decide +kernel
theorem dX9_owe_14 : decode cX9_owe 14 = .ok (.getfield 121, 3) := by decide +kernel
theorem dX9_owe_17 : decode cX9_owe 17 = .ok (.iload_n 1, 1) := by decide +kernel
theorem dX9_owe_18 : decode cX9_owe 18 = .ok (.iadd, 1) := by decide +kernel
theorem dX9_owe_19 : decode cX9_owe 19 = .ok (.sipush (-3600), 3) := by decide +kernel
theorem dX9_owe_22 : decode cX9_owe 22 = .ok (.sipush 3600, 3) := by decide +kernel
theorem dX9_owe_25 : decode cX9_owe 25 = .ok (.invokestatic 63, 3) := by decide +kernel
theorem dX9_owe_28 : decode cX9_owe 28 = .ok (.ifCond .ne 9, 3) := by decide +kernel
theorem dX9_owe_31 : decode cX9_owe 31 = .ok (.aload_n 0, 1) := by decide +kernel
theorem dX9_owe_32 : decode cX9_owe 32 = .ok (.iconst 1, 1) := by decide +kernel
theorem dX9_owe_33 : decode cX9_owe 33 = .ok (.invokevirtual 67, 3) := by decide +kernel
theorem dX9_owe_36 : decode cX9_owe 36 = .ok (.ireturn, 1) := by decide +kernel
theorem dX9_owe_37 : decode cX9_owe 37 = .ok (.aload_n 0, 1) := by decide +kernel
theorem dX9_owe_38 : decode cX9_owe 38 = .ok (.iconst 0, 1) := by decide +kernel
theorem dX9_owe_39 : decode cX9_owe 39 = .ok (.putfield 60, 3) := by decide +kernel
theorem dX9_owe_42 : decode cX9_owe 42 = .ok (.aload_n 0, 1) := by decide +kernel
theorem dX9_owe_43 : decode cX9_owe 43 = .ok (.dup, 1) := by decide +kernel
theorem dX9_owe_44 : decode cX9_owe 44 = .ok (.getfield 121, 3) := by decide +kernel
theorem dX9_owe_47 : decode cX9_owe 47 = .ok (.iload_n 1, 1) := by decide +kernel
theorem dX9_owe_48 : decode cX9_owe 48 = .ok (.iadd, 1) := by decide +kernel
theorem dX9_owe_49 : decode cX9_owe 49 = .ok (.putfield 121, 3) := by decide +kernel
theorem dX9_owe_52 : decode cX9_owe 52 = .ok (.aload_n 0, 1) := by decide +kernel
theorem dX9_owe_53 : decode cX9_owe 53 = .ok (.getfield 121, 3) := by decide +kernel
theorem dX9_owe_56 : decode cX9_owe 56 = .ok (.ireturn, 1) := by decide +kernel
theorem dX9_setBound_0 : decode cX9_setBound 0 = .ok (.iload_n 1, 1) := by decide +kernel
theorem dX9_setBound_1 : decode cX9_setBound 1 = .ok (.iconst 0, 1) := by decide +kernel
theorem dX9_setBound_2 : decode cX9_setBound 2 = .ok (.bipush 30, 2) := by decide +kernel
theorem dX9_setBound_4 : decode cX9_setBound 4 = .ok (.invokestatic 63, 3) := by decide +kernel
theorem dX9_setBound_7 : decode cX9_setBound 7 = .ok (.ifCond .ne 9, 3) := by decide +kernel
theorem dX9_setBound_10 : decode cX9_setBound 10 = .ok (.aload_n 0, 1) := by decide +kernel
theorem dX9_setBound_11 : decode cX9_setBound 11 = .ok (.iconst 1, 1) := by decide +kernel
theorem dX9_setBound_12 : decode cX9_setBound 12 = .ok (.invokevirtual 67, 3) := by decide +kernel
theorem dX9_setBound_15 : decode cX9_setBound 15 = .ok (.ireturn, 1) := by decide +kernel
theorem dX9_setBound_16 : decode cX9_setBound 16 = .ok (.aload_n 0, 1) := by decide +kernel
theorem dX9_setBound_17 : decode cX9_setBound 17 = .ok (.iconst 0, 1) := by decide +kernel
theorem dX9_setBound_18 : decode cX9_setBound 18 = .ok (.putfield 60, 3) := by decide +kernel
theorem dX9_setBound_21 : decode cX9_setBound 21 = .ok (.aload_n 0, 1) := by decide +kernel
theorem dX9_setBound_22 : decode cX9_setBound 22 = .ok (.getfield 19, 3) := by decide +kernel
theorem dX9_setBound_25 : decode cX9_setBound 25 = .ok (.istore_n 2, 1) := by decide +kernel
theorem dX9_setBound_26 : decode cX9_setBound 26 = .ok (.aload_n 0, 1) := by decide +kernel
theorem dX9_setBound_27 : decode cX9_setBound 27 = .ok (.iload_n 1, 1) := by decide +kernel
theorem dX9_setBound_28 : decode cX9_setBound 28 = .ok (.putfield 19, 3) := by decide +kernel
theorem dX9_setBound_31 : decode cX9_setBound 31 = .ok (.iload_n 2, 1) := by decide +kernel
theorem dX9_setBound_32 : decode cX9_setBound 32 = .ok (.ireturn, 1) := by decide +kernel
theorem dX9_leaps_0 : decode cX9_leaps 0 = .ok (.iload_n 0, 1) := by decide +kernel
theorem dX9_leaps_1 : decode cX9_leaps 1 = .ok (.iconst 4, 1) := by decide +kernel
theorem dX9_leaps_2 : decode cX9_leaps 2 = .ok (.irem, 1) := by decide +kernel
theorem dX9_leaps_3 : decode cX9_leaps 3 = .ok (.ifCond .ne 22, 3) := by decide +kernel
theorem dX9_leaps_6 : decode cX9_leaps 6 = .ok (.iload_n 0, 1) := by decide +kernel
theorem dX9_leaps_7 : decode cX9_leaps 7 = .ok (.bipush 100, 2) := by decide +kernel
theorem dX9_leaps_9 : decode cX9_leaps 9 = .ok (.irem, 1) := by decide +kernel
theorem dX9_leaps_10 : decode cX9_leaps 10 = .ok (.ifCond .ne 11, 3) := by decide +kernel
theorem dX9_leaps_13 : decode cX9_leaps 13 = .ok (.iload_n 0, 1) := by decide +kernel
theorem dX9_leaps_14 : decode cX9_leaps 14 = .ok (.sipush 400, 3) := by decide +kernel
theorem dX9_leaps_17 : decode cX9_leaps 17 = .ok (.irem, 1) := by decide +kernel
theorem dX9_leaps_18 : decode cX9_leaps 18 = .ok (.ifCond .ne 7, 3) := by decide +kernel
theorem dX9_leaps_21 : decode cX9_leaps 21 = .ok (.iconst 1, 1) := by decide +kernel
theorem dX9_leaps_22 : decode cX9_leaps 22 = .ok (.goto 4, 3) := by decide +kernel
theorem dX9_leaps_25 : decode cX9_leaps 25 = .ok (.iconst 0, 1) := by decide +kernel
theorem dX9_leaps_26 : decode cX9_leaps 26 = .ok (.ireturn, 1) := by decide +kernel
theorem dX9_days_0 : decode cX9_days 0 = .ok (.iload_n 1, 1) := by decide +kernel
theorem dX9_days_1 : decode cX9_days 1 = .ok (.iconst 2, 1) := by decide +kernel
theorem dX9_days_2 : decode cX9_days 2 = .ok (.if_icmp .ne 18, 3) := by decide +kernel
theorem dX9_days_5 : decode cX9_days 5 = .ok (.iload_n 0, 1) := by decide +kernel
theorem dX9_days_6 : decode cX9_days 6 = .ok (.invokestatic 132, 3) := by decide +kernel
theorem dX9_days_9 : decode cX9_days 9 = .ok (.ifCond .eq 8, 3) := by decide +kernel
theorem dX9_days_12 : decode cX9_days 12 = .ok (.bipush 29, 2) := by decide +kernel
theorem dX9_days_14 : decode cX9_days 14 = .ok (.goto 5, 3) := by decide +kernel
theorem dX9_days_17 : decode cX9_days 17 = .ok (.bipush 28, 2) := by decide +kernel
theorem dX9_days_19 : decode cX9_days 19 = .ok (.ireturn, 1) := by decide +kernel
theorem dX9_days_20 : decode cX9_days 20 = .ok (.iload_n 1, 1) := by decide +kernel
theorem dX9_days_21 : decode cX9_days 21 = .ok (.iconst 4, 1) := by decide +kernel
theorem dX9_days_22 : decode cX9_days 22 = .ok (.if_icmp .eq 21, 3) := by decide +kernel
theorem dX9_days_25 : decode cX9_days 25 = .ok (.iload_n 1, 1) := by decide +kernel
theorem dX9_days_26 : decode cX9_days 26 = .ok (.bipush 6, 2) := by decide +kernel
theorem dX9_days_28 : decode cX9_days 28 = .ok (.if_icmp .eq 15, 3) := by decide +kernel
theorem dX9_days_31 : decode cX9_days 31 = .ok (.iload_n 1, 1) := by decide +kernel
theorem dX9_days_32 : decode cX9_days 32 = .ok (.bipush 9, 2) := by decide +kernel
theorem dX9_days_34 : decode cX9_days 34 = .ok (.if_icmp .eq 9, 3) := by decide +kernel
theorem dX9_days_37 : decode cX9_days 37 = .ok (.iload_n 1, 1) := by decide +kernel
theorem dX9_days_38 : decode cX9_days 38 = .ok (.bipush 11, 2) := by decide +kernel
theorem dX9_days_40 : decode cX9_days 40 = .ok (.if_icmp .ne 8, 3) := by decide +kernel
theorem dX9_days_43 : decode cX9_days 43 = .ok (.bipush 30, 2) := by decide +kernel
theorem dX9_days_45 : decode cX9_days 45 = .ok (.goto 5, 3) := by decide +kernel
theorem dX9_days_48 : decode cX9_days 48 = .ok (.bipush 31, 2) := by decide +kernel
theorem dX9_days_50 : decode cX9_days 50 = .ok (.ireturn, 1) := by decide +kernel
theorem dX9_before_0 : decode cX9_before 0 = .ok (.iload_n 0, 1) := by decide +kernel
theorem dX9_before_1 : decode cX9_before 1 = .ok (.iconst 1, 1) := by decide +kernel
theorem dX9_before_2 : decode cX9_before 2 = .ok (.isub, 1) := by decide +kernel
theorem dX9_before_3 : decode cX9_before 3 = .ok (.istore_n 1, 1) := by decide +kernel
theorem dX9_before_4 : decode cX9_before 4 = .ok (.ldc2_w 135, 3) := by decide +kernel
theorem dX9_before_7 : decode cX9_before 7 = .ok (.iload_n 1, 1) := by decide +kernel
theorem dX9_before_8 : decode cX9_before 8 = .ok (.i2l, 1) := by decide +kernel
theorem dX9_before_9 : decode cX9_before 9 = .ok (.lmul, 1) := by decide +kernel
theorem dX9_before_10 : decode cX9_before 10 = .ok (.iload_n 1, 1) := by decide +kernel
theorem dX9_before_11 : decode cX9_before 11 = .ok (.iconst 4, 1) := by decide +kernel
theorem dX9_before_12 : decode cX9_before 12 = .ok (.idiv, 1) := by decide +kernel
theorem dX9_before_13 : decode cX9_before 13 = .ok (.i2l, 1) := by decide +kernel
theorem dX9_before_14 : decode cX9_before 14 = .ok (.ladd, 1) := by decide +kernel
theorem dX9_before_15 : decode cX9_before 15 = .ok (.iload_n 1, 1) := by decide +kernel
theorem dX9_before_16 : decode cX9_before 16 = .ok (.bipush 100, 2) := by decide +kernel
theorem dX9_before_18 : decode cX9_before 18 = .ok (.idiv, 1) := by decide +kernel
theorem dX9_before_19 : decode cX9_before 19 = .ok (.i2l, 1) := by decide +kernel
theorem dX9_before_20 : decode cX9_before 20 = .ok (.lsub, 1) := by decide +kernel
theorem dX9_before_21 : decode cX9_before 21 = .ok (.iload_n 1, 1) := by decide +kernel
theorem dX9_before_22 : decode cX9_before 22 = .ok (.sipush 400, 3) := by decide +kernel
theorem dX9_before_25 : decode cX9_before 25 = .ok (.idiv, 1) := by decide +kernel
theorem dX9_before_26 : decode cX9_before 26 = .ok (.i2l, 1) := by decide +kernel
theorem dX9_before_27 : decode cX9_before 27 = .ok (.ladd, 1) := by decide +kernel
theorem dX9_before_28 : decode cX9_before 28 = .ok (.lreturn, 1) := by decide +kernel
theorem dX9_number_0 : decode cX9_number 0 = .ok (.iload_n 0, 1) := by decide +kernel
theorem dX9_number_1 : decode cX9_number 1 = .ok (.invokestatic 137, 3) := by decide +kernel
theorem dX9_number_4 : decode cX9_number 4 = .ok (.iload_n 2, 1) := by decide +kernel
theorem dX9_number_5 : decode cX9_number 5 = .ok (.i2l, 1) := by decide +kernel
theorem dX9_number_6 : decode cX9_number 6 = .ok (.ladd, 1) := by decide +kernel
theorem dX9_number_7 : decode cX9_number 7 = .ok (.lstore_n 3, 1) := by decide +kernel
theorem dX9_number_8 : decode cX9_number 8 = .ok (.iconst 1, 1) := by decide +kernel
theorem dX9_number_9 : decode cX9_number 9 = .ok (.istore 5, 2) := by decide +kernel
theorem dX9_number_11 : decode cX9_number 11 = .ok (.iload 5, 2) := by decide +kernel
theorem dX9_number_13 : decode cX9_number 13 = .ok (.iload_n 1, 1) := by decide +kernel
theorem dX9_number_14 : decode cX9_number 14 = .ok (.if_icmp .ge 19, 3) := by decide +kernel
theorem dX9_number_17 : decode cX9_number 17 = .ok (.lload_n 3, 1) := by decide +kernel
theorem dX9_number_18 : decode cX9_number 18 = .ok (.iload_n 0, 1) := by decide +kernel
theorem dX9_number_19 : decode cX9_number 19 = .ok (.iload 5, 2) := by decide +kernel
theorem dX9_number_21 : decode cX9_number 21 = .ok (.invokestatic 140, 3) := by decide +kernel
theorem dX9_number_24 : decode cX9_number 24 = .ok (.i2l, 1) := by decide +kernel
theorem dX9_number_25 : decode cX9_number 25 = .ok (.ladd, 1) := by decide +kernel
theorem dX9_number_26 : decode cX9_number 26 = .ok (.lstore_n 3, 1) := by decide +kernel
theorem dX9_number_27 : decode cX9_number 27 = .ok (.iinc 5 1, 3) := by decide +kernel
theorem dX9_number_30 : decode cX9_number 30 = .ok (.goto (-19), 3) := by decide +kernel
theorem dX9_number_33 : decode cX9_number 33 = .ok (.lload_n 3, 1) := by decide +kernel
theorem dX9_number_34 : decode cX9_number 34 = .ok (.lreturn, 1) := by decide +kernel
theorem dX9_isDate_0 : decode cX9_isDate 0 = .ok (.iload_n 0, 1) := by decide +kernel
theorem dX9_isDate_1 : decode cX9_isDate 1 = .ok (.iconst 1, 1) := by decide +kernel
theorem dX9_isDate_2 : decode cX9_isDate 2 = .ok (.sipush 3000, 3) := by decide +kernel
theorem dX9_isDate_5 : decode cX9_isDate 5 = .ok (.invokestatic 63, 3) := by decide +kernel
theorem dX9_isDate_8 : decode cX9_isDate 8 = .ok (.ifCond .eq 30, 3) := by decide +kernel
theorem dX9_isDate_11 : decode cX9_isDate 11 = .ok (.iload_n 1, 1) := by decide +kernel
theorem dX9_isDate_12 : decode cX9_isDate 12 = .ok (.iconst 1, 1) := by decide +kernel
theorem dX9_isDate_13 : decode cX9_isDate 13 = .ok (.bipush 12, 2) := by decide +kernel
theorem dX9_isDate_15 : decode cX9_isDate 15 = .ok (.invokestatic 63, 3) := by decide +kernel
theorem dX9_isDate_18 : decode cX9_isDate 18 = .ok (.ifCond .eq 20, 3) := by decide +kernel
theorem dX9_isDate_21 : decode cX9_isDate 21 = .ok (.iload_n 2, 1) := by decide +kernel
theorem dX9_isDate_22 : decode cX9_isDate 22 = .ok (.iconst 1, 1) := by decide +kernel
theorem dX9_isDate_23 : decode cX9_isDate 23 = .ok (.iload_n 0, 1) := by decide +kernel
theorem dX9_isDate_24 : decode cX9_isDate 24 = .ok (.iload_n 1, 1) := by decide +kernel
theorem dX9_isDate_25 : decode cX9_isDate 25 = .ok (.invokestatic 140, 3) := by decide +kernel
theorem dX9_isDate_28 : decode cX9_isDate 28 = .ok (.invokestatic 63, 3) := by decide +kernel
theorem dX9_isDate_31 : decode cX9_isDate 31 = .ok (.ifCond .eq 7, 3) := by decide +kernel
theorem dX9_isDate_34 : decode cX9_isDate 34 = .ok (.iconst 1, 1) := by decide +kernel
theorem dX9_isDate_35 : decode cX9_isDate 35 = .ok (.goto 4, 3) := by decide +kernel
theorem dX9_isDate_38 : decode cX9_isDate 38 = .ok (.iconst 0, 1) := by decide +kernel
theorem dX9_isDate_39 : decode cX9_isDate 39 = .ok (.ireturn, 1) := by decide +kernel
theorem dX9_setDate_0 : decode cX9_setDate 0 = .ok (.iload_n 1, 1) := by decide +kernel
theorem dX9_setDate_1 : decode cX9_setDate 1 = .ok (.iload_n 2, 1) := by decide +kernel
theorem dX9_setDate_2 : decode cX9_setDate 2 = .ok (.iload_n 3, 1) := by decide +kernel
theorem dX9_setDate_3 : decode cX9_setDate 3 = .ok (.invokestatic 143, 3) := by decide +kernel
theorem dX9_setDate_6 : decode cX9_setDate 6 = .ok (.ifCond .eq 10, 3) := by decide +kernel
theorem dX9_setDate_9 : decode cX9_setDate 9 = .ok (.iload_n 1, 1) := by decide +kernel
theorem dX9_setDate_10 : decode cX9_setDate 10 = .ok (.sipush 1600, 3) := by decide +kernel
theorem dX9_setDate_13 : decode cX9_setDate 13 = .ok (.if_icmp .ge 9, 3) := by decide +kernel
theorem dX9_setDate_16 : decode cX9_setDate 16 = .ok (.aload_n 0, 1) := by decide +kernel
theorem dX9_setDate_17 : decode cX9_setDate 17 = .ok (.iconst 1, 1) := by decide +kernel
theorem dX9_setDate_18 : decode cX9_setDate 18 = .ok (.invokevirtual 67, 3) := by decide +kernel
theorem dX9_setDate_21 : decode cX9_setDate 21 = .ok (.ireturn, 1) := by decide +kernel
theorem dX9_setDate_22 : decode cX9_setDate 22 = .ok (.aload_n 0, 1) := by decide +kernel
theorem dX9_setDate_23 : decode cX9_setDate 23 = .ok (.iconst 0, 1) := by decide +kernel
theorem dX9_setDate_24 : decode cX9_setDate 24 = .ok (.putfield 60, 3) := by decide +kernel
theorem dX9_setDate_27 : decode cX9_setDate 27 = .ok (.aload_n 0, 1) := by decide +kernel
theorem dX9_setDate_28 : decode cX9_setDate 28 = .ok (.iload_n 1, 1) := by decide +kernel
theorem dX9_setDate_29 : decode cX9_setDate 29 = .ok (.iload_n 2, 1) := by decide +kernel
theorem dX9_setDate_30 : decode cX9_setDate 30 = .ok (.iload_n 3, 1) := by decide +kernel
theorem dX9_setDate_31 : decode cX9_setDate 31 = .ok (.invokestatic 52, 3) := by decide +kernel
theorem dX9_setDate_34 : decode cX9_setDate 34 = .ok (.aload_n 0, 1) := by decide +kernel
theorem dX9_setDate_35 : decode cX9_setDate 35 = .ok (.getfield 112, 3) := by decide +kernel
theorem dX9_setDate_38 : decode cX9_setDate 38 = .ok (.ldc 146, 2) := by decide +kernel
theorem dX9_setDate_40 : decode cX9_setDate 40 = .ok (.idiv, 1) := by decide +kernel
theorem dX9_setDate_41 : decode cX9_setDate 41 = .ok (.i2l, 1) := by decide +kernel
theorem dX9_setDate_42 : decode cX9_setDate 42 = .ok (.lsub, 1) := by decide +kernel
theorem dX9_setDate_43 : decode cX9_setDate 43 = .ok (.putfield 56, 3) := by decide +kernel
theorem dX9_setDate_46 : decode cX9_setDate 46 = .ok (.aload_n 0, 1) := by decide +kernel
theorem dX9_setDate_47 : decode cX9_setDate 47 = .ok (.invokevirtual 147, 3) := by decide +kernel
theorem dX9_setDate_50 : decode cX9_setDate 50 = .ok (.ireturn, 1) := by decide +kernel
theorem dX9_today_0 : decode cX9_today 0 = .ok (.aload_n 0, 1) := by decide +kernel
theorem dX9_today_1 : decode cX9_today 1 = .ok (.getfield 56, 3) := by decide +kernel
theorem dX9_today_4 : decode cX9_today 4 = .ok (.aload_n 0, 1) := by decide +kernel
theorem dX9_today_5 : decode cX9_today 5 = .ok (.getfield 112, 3) := by decide +kernel
theorem dX9_today_8 : decode cX9_today 8 = .ok (.ldc 146, 2) := by decide +kernel
theorem dX9_today_10 : decode cX9_today 10 = .ok (.idiv, 1) := by decide +kernel
theorem dX9_today_11 : decode cX9_today 11 = .ok (.i2l, 1) := by decide +kernel
theorem dX9_today_12 : decode cX9_today 12 = .ok (.ladd, 1) := by decide +kernel
theorem dX9_today_13 : decode cX9_today 13 = .ok (.lreturn, 1) := by decide +kernel
theorem dX9_year_0 : decode cX9_year 0 = .ok (.aload_n 0, 1) := by decide +kernel
theorem dX9_year_1 : decode cX9_year 1 = .ok (.invokevirtual 151, 3) := by decide +kernel
theorem dX9_year_4 : decode cX9_year 4 = .ok (.ldc2_w 155, 3) := by decide +kernel
theorem dX9_year_7 : decode cX9_year 7 = .ok (.ldiv, 1) := by decide +kernel
theorem dX9_year_8 : decode cX9_year 8 = .ok (.l2i, 1) := by decide +kernel
theorem dX9_year_9 : decode cX9_year 9 = .ok (.istore_n 1, 1) := by decide +kernel
theorem dX9_year_10 : decode cX9_year 10 = .ok (.iload_n 1, 1) := by decide +kernel
theorem dX9_year_11 : decode cX9_year 11 = .ok (.iconst 1, 1) := by decide +kernel
theorem dX9_year_12 : decode cX9_year 12 = .ok (.if_icmp .ge 5, 3) := by decide +kernel
theorem dX9_year_15 : decode cX9_year 15 = .ok (.iconst 1, 1) := by decide +kernel
theorem dX9_year_16 : decode cX9_year 16 = .ok (.istore_n 1, 1) := by decide +kernel
theorem dX9_year_17 : decode cX9_year 17 = .ok (.iload_n 1, 1) := by decide +kernel
theorem dX9_year_18 : decode cX9_year 18 = .ok (.iconst 1, 1) := by decide +kernel
theorem dX9_year_19 : decode cX9_year 19 = .ok (.iadd, 1) := by decide +kernel
theorem dX9_year_20 : decode cX9_year 20 = .ok (.invokestatic 137, 3) := by decide +kernel
theorem dX9_year_23 : decode cX9_year 23 = .ok (.aload_n 0, 1) := by decide +kernel
theorem dX9_year_24 : decode cX9_year 24 = .ok (.invokevirtual 151, 3) := by decide +kernel
theorem dX9_year_27 : decode cX9_year 27 = .ok (.lcmp, 1) := by decide +kernel
theorem dX9_year_28 : decode cX9_year 28 = .ok (.ifCond .ge 9, 3) := by decide +kernel
theorem dX9_year_31 : decode cX9_year 31 = .ok (.iinc 1 1, 3) := by decide +kernel
theorem dX9_year_34 : decode cX9_year 34 = .ok (.goto (-17), 3) := by decide +kernel
theorem dX9_year_37 : decode cX9_year 37 = .ok (.iload_n 1, 1) := by decide +kernel
theorem dX9_year_38 : decode cX9_year 38 = .ok (.ireturn, 1) := by decide +kernel
theorem dX9_month_0 : decode cX9_month 0 = .ok (.aload_n 0, 1) := by decide +kernel
theorem dX9_month_1 : decode cX9_month 1 = .ok (.invokevirtual 157, 3) := by decide +kernel
theorem dX9_month_4 : decode cX9_month 4 = .ok (.istore_n 1, 1) := by decide +kernel
theorem dX9_month_5 : decode cX9_month 5 = .ok (.iconst 1, 1) := by decide +kernel
theorem dX9_month_6 : decode cX9_month 6 = .ok (.istore_n 2, 1) := by decide +kernel
theorem dX9_month_7 : decode cX9_month 7 = .ok (.iload_n 1, 1) := by decide +kernel
theorem dX9_month_8 : decode cX9_month 8 = .ok (.iload_n 2, 1) := by decide +kernel
theorem dX9_month_9 : decode cX9_month 9 = .ok (.iload_n 1, 1) := by decide +kernel
theorem dX9_month_10 : decode cX9_month 10 = .ok (.iload_n 2, 1) := by decide +kernel
theorem dX9_month_11 : decode cX9_month 11 = .ok (.invokestatic 140, 3) := by decide +kernel
theorem dX9_month_14 : decode cX9_month 14 = .ok (.invokestatic 52, 3) := by decide +kernel
theorem dX9_month_17 : decode cX9_month 17 = .ok (.aload_n 0, 1) := by decide +kernel
theorem dX9_month_18 : decode cX9_month 18 = .ok (.invokevirtual 151, 3) := by decide +kernel
theorem dX9_month_21 : decode cX9_month 21 = .ok (.lcmp, 1) := by decide +kernel
theorem dX9_month_22 : decode cX9_month 22 = .ok (.ifCond .ge 9, 3) := by decide +kernel
theorem dX9_month_25 : decode cX9_month 25 = .ok (.iinc 2 1, 3) := by decide +kernel
theorem dX9_month_28 : decode cX9_month 28 = .ok (.goto (-21), 3) := by decide +kernel
theorem dX9_month_31 : decode cX9_month 31 = .ok (.iload_n 2, 1) := by decide +kernel
theorem dX9_month_32 : decode cX9_month 32 = .ok (.ireturn, 1) := by decide +kernel
theorem dX9_day_0 : decode cX9_day 0 = .ok (.aload_n 0, 1) := by decide +kernel
theorem dX9_day_1 : decode cX9_day 1 = .ok (.invokevirtual 151, 3) := by decide +kernel
theorem dX9_day_4 : decode cX9_day 4 = .ok (.aload_n 0, 1) := by decide +kernel
theorem dX9_day_5 : decode cX9_day 5 = .ok (.invokevirtual 157, 3) := by decide +kernel
theorem dX9_day_8 : decode cX9_day 8 = .ok (.aload_n 0, 1) := by decide +kernel
theorem dX9_day_9 : decode cX9_day 9 = .ok (.invokevirtual 160, 3) := by decide +kernel
theorem dX9_day_12 : decode cX9_day 12 = .ok (.iconst 1, 1) := by decide +kernel
theorem dX9_day_13 : decode cX9_day 13 = .ok (.invokestatic 52, 3) := by decide +kernel
theorem dX9_day_16 : decode cX9_day 16 = .ok (.lsub, 1) := by decide +kernel
theorem dX9_day_17 : decode cX9_day 17 = .ok (.l2i, 1) := by decide +kernel
theorem dX9_day_18 : decode cX9_day 18 = .ok (.iconst 1, 1) := by decide +kernel
theorem dX9_day_19 : decode cX9_day 19 = .ok (.iadd, 1) := by decide +kernel
theorem dX9_day_20 : decode cX9_day 20 = .ok (.ireturn, 1) := by decide +kernel
theorem dX9_weekday_0 : decode cX9_weekday 0 = .ok (.aload_n 0, 1) := by decide +kernel
theorem dX9_weekday_1 : decode cX9_weekday 1 = .ok (.invokevirtual 151, 3) := by decide +kernel
theorem dX9_weekday_4 : decode cX9_weekday 4 = .ok (.lconst 1, 1) := by decide +kernel
theorem dX9_weekday_5 : decode cX9_weekday 5 = .ok (.lsub, 1) := by decide +kernel
theorem dX9_weekday_6 : decode cX9_weekday 6 = .ok (.ldc2_w 163, 3) := by decide +kernel
theorem dX9_weekday_9 : decode cX9_weekday 9 = .ok (.lrem, 1) := by decide +kernel
theorem dX9_weekday_10 : decode cX9_weekday 10 = .ok (.l2i, 1) := by decide +kernel
theorem dX9_weekday_11 : decode cX9_weekday 11 = .ok (.ireturn, 1) := by decide +kernel
theorem dX9_isLeap_0 : decode cX9_isLeap 0 = .ok (.aload_n 0, 1) := by decide +kernel
theorem dX9_isLeap_1 : decode cX9_isLeap 1 = .ok (.iload_n 1, 1) := by decide +kernel
theorem dX9_isLeap_2 : decode cX9_isLeap 2 = .ok (.iconst 1, 1) := by decide +kernel
theorem dX9_isLeap_3 : decode cX9_isLeap 3 = .ok (.sipush 3000, 3) := by decide +kernel
theorem dX9_isLeap_6 : decode cX9_isLeap 6 = .ok (.invokestatic 63, 3) := by decide +kernel
theorem dX9_isLeap_9 : decode cX9_isLeap 9 = .ok (.ifCond .eq 7, 3) := by decide +kernel
theorem dX9_isLeap_12 : decode cX9_isLeap 12 = .ok (.iconst 0, 1) := by decide +kernel
theorem dX9_isLeap_13 : decode cX9_isLeap 13 = .ok (.goto 4, 3) := by decide +kernel
theorem dX9_isLeap_16 : decode cX9_isLeap 16 = .ok (.iconst 1, 1) := by decide +kernel
theorem dX9_isLeap_17 : decode cX9_isLeap 17 = .ok (.putfield 60, 3) := by decide +kernel
theorem dX9_isLeap_20 : decode cX9_isLeap 20 = .ok (.aload_n 0, 1) := by decide +kernel
theorem dX9_isLeap_21 : decode cX9_isLeap 21 = .ok (.getfield 60, 3) := by decide +kernel
theorem dX9_isLeap_24 : decode cX9_isLeap 24 = .ok (.ifCond .ne 14, 3) := by decide +kernel
theorem dX9_isLeap_27 : decode cX9_isLeap 27 = .ok (.iload_n 1, 1) := by decide +kernel
theorem dX9_isLeap_28 : decode cX9_isLeap 28 = .ok (.invokestatic 132, 3) := by decide +kernel
theorem dX9_isLeap_31 : decode cX9_isLeap 31 = .ok (.ifCond .eq 7, 3) := by decide +kernel
theorem dX9_isLeap_34 : decode cX9_isLeap 34 = .ok (.iconst 1, 1) := by decide +kernel
theorem dX9_isLeap_35 : decode cX9_isLeap 35 = .ok (.goto 4, 3) := by decide +kernel
theorem dX9_isLeap_38 : decode cX9_isLeap 38 = .ok (.iconst 0, 1) := by decide +kernel
theorem dX9_isLeap_39 : decode cX9_isLeap 39 = .ok (.ireturn, 1) := by decide +kernel
theorem dX9_numberOf_0 : decode cX9_numberOf 0 = .ok (.aload_n 0, 1) := by decide +kernel
theorem dX9_numberOf_1 : decode cX9_numberOf 1 = .ok (.iload_n 1, 1) := by decide +kernel
theorem dX9_numberOf_2 : decode cX9_numberOf 2 = .ok (.iload_n 2, 1) := by decide +kernel
theorem dX9_numberOf_3 : decode cX9_numberOf 3 = .ok (.iload_n 3, 1) := by decide +kernel
theorem dX9_numberOf_4 : decode cX9_numberOf 4 = .ok (.invokestatic 143, 3) := by decide +kernel
theorem dX9_numberOf_7 : decode cX9_numberOf 7 = .ok (.ifCond .eq 7, 3) := by decide +kernel
theorem dX9_numberOf_10 : decode cX9_numberOf 10 = .ok (.iconst 0, 1) := by decide +kernel
theorem dX9_numberOf_11 : decode cX9_numberOf 11 = .ok (.goto 4, 3) := by decide +kernel
theorem dX9_numberOf_14 : decode cX9_numberOf 14 = .ok (.iconst 1, 1) := by decide +kernel
theorem dX9_numberOf_15 : decode cX9_numberOf 15 = .ok (.putfield 60, 3) := by decide +kernel
theorem dX9_numberOf_18 : decode cX9_numberOf 18 = .ok (.aload_n 0, 1) := by decide +kernel
theorem dX9_numberOf_19 : decode cX9_numberOf 19 = .ok (.getfield 60, 3) := by decide +kernel
theorem dX9_numberOf_22 : decode cX9_numberOf 22 = .ok (.ifCond .ne 12, 3) := by decide +kernel
theorem dX9_numberOf_25 : decode cX9_numberOf 25 = .ok (.iload_n 1, 1) := by decide +kernel
theorem dX9_numberOf_26 : decode cX9_numberOf 26 = .ok (.iload_n 2, 1) := by decide +kernel
theorem dX9_numberOf_27 : decode cX9_numberOf 27 = .ok (.iload_n 3, 1) := by decide +kernel
theorem dX9_numberOf_28 : decode cX9_numberOf 28 = .ok (.invokestatic 52, 3) := by decide +kernel
theorem dX9_numberOf_31 : decode cX9_numberOf 31 = .ok (.goto 4, 3) := by decide +kernel
theorem dX9_numberOf_34 : decode cX9_numberOf 34 = .ok (.lconst 0, 1) := by decide +kernel
theorem dX9_numberOf_35 : decode cX9_numberOf 35 = .ok (.lreturn, 1) := by decide +kernel
theorem dX9_numberByCounting_0 : decode cX9_numberByCounting 0 = .ok (.aload_n 0, 1) := by decide +kernel
theorem dX9_numberByCounting_1 : decode cX9_numberByCounting 1 = .ok (.iload_n 1, 1) := by decide +kernel
theorem dX9_numberByCounting_2 : decode cX9_numberByCounting 2 = .ok (.iload_n 2, 1) := by decide +kernel
theorem dX9_numberByCounting_3 : decode cX9_numberByCounting 3 = .ok (.iload_n 3, 1) := by decide +kernel
theorem dX9_numberByCounting_4 : decode cX9_numberByCounting 4 = .ok (.invokevirtual 165, 3) := by decide +kernel
theorem dX9_numberByCounting_7 : decode cX9_numberByCounting 7 = .ok (.lreturn, 1) := by decide +kernel
theorem dX9_setSilence_0 : decode cX9_setSilence 0 = .ok (.iload_n 1, 1) := by decide +kernel
theorem dX9_setSilence_1 : decode cX9_setSilence 1 = .ok (.iconst 0, 1) := by decide +kernel
theorem dX9_setSilence_2 : decode cX9_setSilence 2 = .ok (.bipush 23, 2) := by decide +kernel
theorem dX9_setSilence_4 : decode cX9_setSilence 4 = .ok (.invokestatic 63, 3) := by decide +kernel
theorem dX9_setSilence_7 : decode cX9_setSilence 7 = .ok (.ifCond .eq 13, 3) := by decide +kernel
theorem dX9_setSilence_10 : decode cX9_setSilence 10 = .ok (.iload_n 2, 1) := by decide +kernel
theorem dX9_setSilence_11 : decode cX9_setSilence 11 = .ok (.iconst 0, 1) := by decide +kernel
theorem dX9_setSilence_12 : decode cX9_setSilence 12 = .ok (.bipush 23, 2) := by decide +kernel
theorem dX9_setSilence_14 : decode cX9_setSilence 14 = .ok (.invokestatic 63, 3) := by decide +kernel
theorem dX9_setSilence_17 : decode cX9_setSilence 17 = .ok (.ifCond .ne 9, 3) := by decide +kernel
theorem dX9_setSilence_20 : decode cX9_setSilence 20 = .ok (.aload_n 0, 1) := by decide +kernel
theorem dX9_setSilence_21 : decode cX9_setSilence 21 = .ok (.iconst 1, 1) := by decide +kernel
theorem dX9_setSilence_22 : decode cX9_setSilence 22 = .ok (.invokevirtual 67, 3) := by decide +kernel
theorem dX9_setSilence_25 : decode cX9_setSilence 25 = .ok (.ireturn, 1) := by decide +kernel
theorem dX9_setSilence_26 : decode cX9_setSilence 26 = .ok (.aload_n 0, 1) := by decide +kernel
theorem dX9_setSilence_27 : decode cX9_setSilence 27 = .ok (.iconst 0, 1) := by decide +kernel
theorem dX9_setSilence_28 : decode cX9_setSilence 28 = .ok (.putfield 60, 3) := by decide +kernel
theorem dX9_setSilence_31 : decode cX9_setSilence 31 = .ok (.aload_n 0, 1) := by decide +kernel
theorem dX9_setSilence_32 : decode cX9_setSilence 32 = .ok (.iload_n 1, 1) := by decide +kernel
theorem dX9_setSilence_33 : decode cX9_setSilence 33 = .ok (.putfield 91, 3) := by decide +kernel
theorem dX9_setSilence_36 : decode cX9_setSilence 36 = .ok (.aload_n 0, 1) := by decide +kernel
theorem dX9_setSilence_37 : decode cX9_setSilence 37 = .ok (.iload_n 2, 1) := by decide +kernel
theorem dX9_setSilence_38 : decode cX9_setSilence 38 = .ok (.putfield 94, 3) := by decide +kernel
theorem dX9_setSilence_41 : decode cX9_setSilence 41 = .ok (.iload_n 2, 1) := by decide +kernel
theorem dX9_setSilence_42 : decode cX9_setSilence 42 = .ok (.iload_n 1, 1) := by decide +kernel
theorem dX9_setSilence_43 : decode cX9_setSilence 43 = .ok (.isub, 1) := by decide +kernel
theorem dX9_setSilence_44 : decode cX9_setSilence 44 = .ok (.bipush 24, 2) := by decide +kernel
theorem dX9_setSilence_46 : decode cX9_setSilence 46 = .ok (.iadd, 1) := by decide +kernel
theorem dX9_setSilence_47 : decode cX9_setSilence 47 = .ok (.bipush 24, 2) := by decide +kernel
theorem dX9_setSilence_49 : decode cX9_setSilence 49 = .ok (.irem, 1) := by decide +kernel
theorem dX9_setSilence_50 : decode cX9_setSilence 50 = .ok (.ireturn, 1) := by decide +kernel
theorem dX9_setQuarters_0 : decode cX9_setQuarters 0 = .ok (.aload_n 0, 1) := by decide +kernel
theorem dX9_setQuarters_1 : decode cX9_setQuarters 1 = .ok (.getfield 22, 3) := by decide +kernel
theorem dX9_setQuarters_4 : decode cX9_setQuarters 4 = .ok (.istore_n 2, 1) := by decide +kernel
theorem dX9_setQuarters_5 : decode cX9_setQuarters 5 = .ok (.aload_n 0, 1) := by decide +kernel
theorem dX9_setQuarters_6 : decode cX9_setQuarters 6 = .ok (.iload_n 1, 1) := by decide +kernel
theorem dX9_setQuarters_7 : decode cX9_setQuarters 7 = .ok (.putfield 22, 3) := by decide +kernel
theorem dX9_setQuarters_10 : decode cX9_setQuarters 10 = .ok (.iload_n 2, 1) := by decide +kernel
theorem dX9_setQuarters_11 : decode cX9_setQuarters 11 = .ok (.ireturn, 1) := by decide +kernel
theorem dX9_addDrum_0 : decode cX9_addDrum 0 = .ok (.aload_n 0, 1) := by decide +kernel
theorem dX9_addDrum_1 : decode cX9_addDrum 1 = .ok (.getfield 168, 3) := by decide +kernel
theorem dX9_addDrum_4 : decode cX9_addDrum 4 = .ok (.iconst 4, 1) := by decide +kernel
theorem dX9_addDrum_5 : decode cX9_addDrum 5 = .ok (.if_icmp .ne 9, 3) := by decide +kernel
theorem dX9_addDrum_8 : decode cX9_addDrum 8 = .ok (.aload_n 0, 1) := by decide +kernel
theorem dX9_addDrum_9 : decode cX9_addDrum 9 = .ok (.iconst 1, 1) := by decide +kernel
theorem dX9_addDrum_10 : decode cX9_addDrum 10 = .ok (.invokevirtual 67, 3) := by decide +kernel
theorem dX9_addDrum_13 : decode cX9_addDrum 13 = .ok (.ireturn, 1) := by decide +kernel
theorem dX9_addDrum_14 : decode cX9_addDrum 14 = .ok (.aload_n 0, 1) := by decide +kernel
theorem dX9_addDrum_15 : decode cX9_addDrum 15 = .ok (.iconst 0, 1) := by decide +kernel
theorem dX9_addDrum_16 : decode cX9_addDrum 16 = .ok (.putfield 60, 3) := by decide +kernel
theorem dX9_addDrum_19 : decode cX9_addDrum 19 = .ok (.aload_n 0, 1) := by decide +kernel
theorem dX9_addDrum_20 : decode cX9_addDrum 20 = .ok (.dup, 1) := by decide +kernel
theorem dX9_addDrum_21 : decode cX9_addDrum 21 = .ok (.getfield 168, 3) := by decide +kernel
theorem dX9_addDrum_24 : decode cX9_addDrum 24 = .ok (.dup_x1, 1) := by decide +kernel
theorem dX9_addDrum_25 : decode cX9_addDrum 25 = .ok (.iconst 1, 1) := by decide +kernel
theorem dX9_addDrum_26 : decode cX9_addDrum 26 = .ok (.iadd, 1) := by decide +kernel
theorem dX9_addDrum_27 : decode cX9_addDrum 27 = .ok (.putfield 168, 3) := by decide +kernel
theorem dX9_addDrum_30 : decode cX9_addDrum 30 = .ok (.ireturn, 1) := by decide +kernel
theorem dX9_noDrum_0 : decode cX9_noDrum 0 = .ok (.aload_n 0, 1) := by decide +kernel
theorem dX9_noDrum_1 : decode cX9_noDrum 1 = .ok (.iload_n 1, 1) := by decide +kernel
theorem dX9_noDrum_2 : decode cX9_noDrum 2 = .ok (.iconst 0, 1) := by decide +kernel
theorem dX9_noDrum_3 : decode cX9_noDrum 3 = .ok (.aload_n 0, 1) := by decide +kernel
theorem dX9_noDrum_4 : decode cX9_noDrum 4 = .ok (.getfield 168, 3) := by decide +kernel
theorem dX9_noDrum_7 : decode cX9_noDrum 7 = .ok (.iconst 1, 1) := by decide +kernel
theorem dX9_noDrum_8 : decode cX9_noDrum 8 = .ok (.isub, 1) := by decide +kernel
theorem dX9_noDrum_9 : decode cX9_noDrum 9 = .ok (.invokestatic 63, 3) := by decide +kernel
theorem dX9_noDrum_12 : decode cX9_noDrum 12 = .ok (.ifCond .eq 7, 3) := by decide +kernel
theorem dX9_noDrum_15 : decode cX9_noDrum 15 = .ok (.iconst 0, 1) := by decide +kernel
theorem dX9_noDrum_16 : decode cX9_noDrum 16 = .ok (.goto 4, 3) := by decide +kernel
theorem dX9_noDrum_19 : decode cX9_noDrum 19 = .ok (.iconst 1, 1) := by decide +kernel
theorem dX9_noDrum_20 : decode cX9_noDrum 20 = .ok (.putfield 60, 3) := by decide +kernel
theorem dX9_noDrum_23 : decode cX9_noDrum 23 = .ok (.aload_n 0, 1) := by decide +kernel
theorem dX9_noDrum_24 : decode cX9_noDrum 24 = .ok (.getfield 60, 3) := by decide +kernel
theorem dX9_noDrum_27 : decode cX9_noDrum 27 = .ok (.ifCond .eq 7, 3) := by decide +kernel
theorem dX9_noDrum_30 : decode cX9_noDrum 30 = .ok (.iconst 1, 1) := by decide +kernel
theorem dX9_noDrum_31 : decode cX9_noDrum 31 = .ok (.goto 4, 3) := by decide +kernel
theorem dX9_noDrum_34 : decode cX9_noDrum 34 = .ok (.iconst 0, 1) := by decide +kernel
theorem dX9_noDrum_35 : decode cX9_noDrum 35 = .ok (.ireturn, 1) := by decide +kernel
theorem dX9_setPin_0 : decode cX9_setPin 0 = .ok (.aload_n 0, 1) := by decide +kernel
theorem dX9_setPin_1 : decode cX9_setPin 1 = .ok (.iload_n 1, 1) := by decide +kernel
theorem dX9_setPin_2 : decode cX9_setPin 2 = .ok (.invokevirtual 171, 3) := by decide +kernel
theorem dX9_setPin_5 : decode cX9_setPin 5 = .ok (.ifCond .eq 5, 3) := by decide +kernel
theorem dX9_setPin_8 : decode cX9_setPin 8 = .ok (.iconst 0, 1) := by decide +kernel
theorem dX9_setPin_9 : decode cX9_setPin 9 = .ok (.ireturn, 1) := by decide +kernel
theorem dX9_setPin_10 : decode cX9_setPin 10 = .ok (.aload_n 0, 1) := by decide +kernel
theorem dX9_setPin_11 : decode cX9_setPin 11 = .ok (.iload_n 2, 1) := by decide +kernel
theorem dX9_setPin_12 : decode cX9_setPin 12 = .ok (.iconst 0, 1) := by decide +kernel
theorem dX9_setPin_13 : decode cX9_setPin 13 = .ok (.bipush 31, 2) := by decide +kernel
theorem dX9_setPin_15 : decode cX9_setPin 15 = .ok (.invokestatic 63, 3) := by decide +kernel
theorem dX9_setPin_18 : decode cX9_setPin 18 = .ok (.ifCond .eq 17, 3) := by decide +kernel
theorem dX9_setPin_21 : decode cX9_setPin 21 = .ok (.iload_n 3, 1) := by decide +kernel
theorem dX9_setPin_22 : decode cX9_setPin 22 = .ok (.iconst 1, 1) := by decide +kernel
theorem dX9_setPin_23 : decode cX9_setPin 23 = .ok (.bipush 8, 2) := by decide +kernel
theorem dX9_setPin_25 : decode cX9_setPin 25 = .ok (.invokestatic 63, 3) := by decide +kernel
theorem dX9_setPin_28 : decode cX9_setPin 28 = .ok (.ifCond .eq 7, 3) := by decide +kernel
theorem dX9_setPin_31 : decode cX9_setPin 31 = .ok (.iconst 0, 1) := by decide +kernel
theorem dX9_setPin_32 : decode cX9_setPin 32 = .ok (.goto 4, 3) := by decide +kernel
theorem dX9_setPin_35 : decode cX9_setPin 35 = .ok (.iconst 2, 1) := by decide +kernel
theorem dX9_setPin_36 : decode cX9_setPin 36 = .ok (.putfield 60, 3) := by decide +kernel
theorem dX9_setPin_39 : decode cX9_setPin 39 = .ok (.aload_n 0, 1) := by decide +kernel
theorem dX9_setPin_40 : decode cX9_setPin 40 = .ok (.getfield 60, 3) := by decide +kernel
theorem dX9_setPin_43 : decode cX9_setPin 43 = .ok (.ifCond .eq 5, 3) := by decide +kernel
theorem dX9_setPin_46 : decode cX9_setPin 46 = .ok (.iconst 0, 1) := by decide +kernel
theorem dX9_setPin_47 : decode cX9_setPin 47 = .ok (.ireturn, 1) := by decide +kernel
theorem dX9_setPin_48 : decode cX9_setPin 48 = .ok (.bipush 32, 2) := by decide +kernel
theorem dX9_setPin_50 : decode cX9_setPin 50 = .ok (.iload_n 1, 1) := by decide +kernel
theorem dX9_setPin_51 : decode cX9_setPin 51 = .ok (.imul, 1) := by decide +kernel
theorem dX9_setPin_52 : decode cX9_setPin 52 = .ok (.iload_n 2, 1) := by decide +kernel
theorem dX9_setPin_53 : decode cX9_setPin 53 = .ok (.iadd, 1) := by decide +kernel
theorem dX9_setPin_54 : decode cX9_setPin 54 = .ok (.istore 5, 2) := by decide +kernel
theorem dX9_setPin_56 : decode cX9_setPin 56 = .ok (.aload_n 0, 1) := by decide +kernel
theorem dX9_setPin_57 : decode cX9_setPin 57 = .ok (.getfield 33, 3) := by decide +kernel
theorem dX9_setPin_60 : decode cX9_setPin 60 = .ok (.iload 5, 2) := by decide +kernel
theorem dX9_setPin_62 : decode cX9_setPin 62 = .ok (.iaload, 1) := by decide +kernel
theorem dX9_setPin_63 : decode cX9_setPin 63 = .ok (.iload_n 3, 1) := by decide +kernel
theorem dX9_setPin_64 : decode cX9_setPin 64 = .ok (.ishr, 1) := by decide +kernel
theorem dX9_setPin_65 : decode cX9_setPin 65 = .ok (.iconst 1, 1) := by decide +kernel
theorem dX9_setPin_66 : decode cX9_setPin 66 = .ok (.iand, 1) := by decide +kernel
theorem dX9_setPin_67 : decode cX9_setPin 67 = .ok (.iconst 1, 1) := by decide +kernel
theorem dX9_setPin_68 : decode cX9_setPin 68 = .ok (.if_icmp .ne 7, 3) := by decide +kernel
theorem dX9_setPin_71 : decode cX9_setPin 71 = .ok (.iconst 1, 1) := by decide +kernel
theorem dX9_setPin_72 : decode cX9_setPin 72 = .ok (.goto 4, 3) := by decide +kernel
theorem dX9_setPin_75 : decode cX9_setPin 75 = .ok (.iconst 0, 1) := by decide +kernel
theorem dX9_setPin_76 : decode cX9_setPin 76 = .ok (.istore 6, 2) := by decide +kernel
theorem dX9_setPin_78 : decode cX9_setPin 78 = .ok (.iload 4, 2) := by decide +kernel
theorem dX9_setPin_80 : decode cX9_setPin 80 = .ok (.iload 6, 2) := by decide +kernel
theorem dX9_setPin_82 : decode cX9_setPin 82 = .ok (.if_icmp .eq 16, 3) := by decide +kernel
theorem dX9_setPin_85 : decode cX9_setPin 85 = .ok (.aload_n 0, 1) := by decide +kernel
theorem dX9_setPin_86 : decode cX9_setPin 86 = .ok (.getfield 33, 3) := by decide +kernel
theorem dX9_setPin_89 : decode cX9_setPin 89 = .ok (.iload 5, 2) := by decide +kernel
theorem dX9_setPin_91 : decode cX9_setPin 91 = .ok (.dup2, 1) := by decide +kernel
theorem dX9_setPin_92 : decode cX9_setPin 92 = .ok (.iaload, 1) := by decide +kernel
theorem dX9_setPin_93 : decode cX9_setPin 93 = .ok (.iconst 1, 1) := by decide +kernel
theorem dX9_setPin_94 : decode cX9_setPin 94 = .ok (.iload_n 3, 1) := by decide +kernel
theorem dX9_setPin_95 : decode cX9_setPin 95 = .ok (.ishl, 1) := by decide +kernel
theorem dX9_setPin_96 : decode cX9_setPin 96 = .ok (.ixor, 1) := by decide +kernel
theorem dX9_setPin_97 : decode cX9_setPin 97 = .ok (.iastore, 1) := by decide +kernel
theorem dX9_setPin_98 : decode cX9_setPin 98 = .ok (.iload 6, 2) := by decide +kernel
theorem dX9_setPin_100 : decode cX9_setPin 100 = .ok (.ireturn, 1) := by decide +kernel
theorem dX9_pins_0 : decode cX9_pins 0 = .ok (.aload_n 0, 1) := by decide +kernel
theorem dX9_pins_1 : decode cX9_pins 1 = .ok (.iload_n 1, 1) := by decide +kernel
theorem dX9_pins_2 : decode cX9_pins 2 = .ok (.invokevirtual 171, 3) := by decide +kernel
theorem dX9_pins_5 : decode cX9_pins 5 = .ok (.ifCond .eq 5, 3) := by decide +kernel
theorem dX9_pins_8 : decode cX9_pins 8 = .ok (.iconst 0, 1) := by decide +kernel
theorem dX9_pins_9 : decode cX9_pins 9 = .ok (.ireturn, 1) := by decide +kernel
theorem dX9_pins_10 : decode cX9_pins 10 = .ok (.iconst 0, 1) := by decide +kernel
theorem dX9_pins_11 : decode cX9_pins 11 = .ok (.istore_n 2, 1) := by decide +kernel
theorem dX9_pins_12 : decode cX9_pins 12 = .ok (.iconst 0, 1) := by decide +kernel
theorem dX9_pins_13 : decode cX9_pins 13 = .ok (.istore_n 3, 1) := by decide +kernel
theorem dX9_pins_14 : decode cX9_pins 14 = .ok (.iload_n 3, 1) := by decide +kernel
theorem dX9_pins_15 : decode cX9_pins 15 = .ok (.bipush 32, 2) := by decide +kernel
theorem dX9_pins_17 : decode cX9_pins 17 = .ok (.if_icmp .ge 26, 3) := by decide +kernel
theorem dX9_pins_20 : decode cX9_pins 20 = .ok (.iload_n 2, 1) := by decide +kernel
theorem dX9_pins_21 : decode cX9_pins 21 = .ok (.aload_n 0, 1) := by decide +kernel
theorem dX9_pins_22 : decode cX9_pins 22 = .ok (.getfield 33, 3) := by decide +kernel
theorem dX9_pins_25 : decode cX9_pins 25 = .ok (.bipush 32, 2) := by decide +kernel
theorem dX9_pins_27 : decode cX9_pins 27 = .ok (.iload_n 1, 1) := by decide +kernel
theorem dX9_pins_28 : decode cX9_pins 28 = .ok (.imul, 1) := by decide +kernel
theorem dX9_pins_29 : decode cX9_pins 29 = .ok (.iload_n 3, 1) := by decide +kernel
theorem dX9_pins_30 : decode cX9_pins 30 = .ok (.iadd, 1) := by decide +kernel
theorem dX9_pins_31 : decode cX9_pins 31 = .ok (.iaload, 1) := by decide +kernel
theorem dX9_pins_32 : decode cX9_pins 32 = .ok (.invokestatic 174, 3) := by decide +kernel
theorem dX9_pins_35 : decode cX9_pins 35 = .ok (.iadd, 1) := by decide +kernel
theorem dX9_pins_36 : decode cX9_pins 36 = .ok (.istore_n 2, 1) := by decide +kernel
theorem dX9_pins_37 : decode cX9_pins 37 = .ok (.iinc 3 1, 3) := by decide +kernel
theorem dX9_pins_40 : decode cX9_pins 40 = .ok (.goto (-26), 3) := by decide +kernel
theorem dX9_pins_43 : decode cX9_pins 43 = .ok (.iload_n 2, 1) := by decide +kernel
theorem dX9_pins_44 : decode cX9_pins 44 = .ok (.ireturn, 1) := by decide +kernel
theorem dX9_bellAt_0 : decode cX9_bellAt 0 = .ok (.aload_n 0, 1) := by decide +kernel
theorem dX9_bellAt_1 : decode cX9_bellAt 1 = .ok (.iload_n 1, 1) := by decide +kernel
theorem dX9_bellAt_2 : decode cX9_bellAt 2 = .ok (.invokevirtual 171, 3) := by decide +kernel
theorem dX9_bellAt_5 : decode cX9_bellAt 5 = .ok (.ifCond .eq 5, 3) := by decide +kernel
theorem dX9_bellAt_8 : decode cX9_bellAt 8 = .ok (.iconst 0, 1) := by decide +kernel
theorem dX9_bellAt_9 : decode cX9_bellAt 9 = .ok (.ireturn, 1) := by decide +kernel
theorem dX9_bellAt_10 : decode cX9_bellAt 10 = .ok (.iconst 0, 1) := by decide +kernel
theorem dX9_bellAt_11 : decode cX9_bellAt 11 = .ok (.istore_n 3, 1) := by decide +kernel
theorem dX9_bellAt_12 : decode cX9_bellAt 12 = .ok (.iconst 0, 1) := by decide +kernel
theorem dX9_bellAt_13 : decode cX9_bellAt 13 = .ok (.istore 4, 2) := by decide +kernel
theorem dX9_bellAt_15 : decode cX9_bellAt 15 = .ok (.iload 4, 2) := by decide +kernel
theorem dX9_bellAt_17 : decode cX9_bellAt 17 = .ok (.bipush 32, 2) := by decide +kernel
theorem dX9_bellAt_19 : decode cX9_bellAt 19 = .ok (.if_icmp .ge 57, 3) := by decide +kernel
theorem dX9_bellAt_22 : decode cX9_bellAt 22 = .ok (.iconst 1, 1) := by decide +kernel
theorem dX9_bellAt_23 : decode cX9_bellAt 23 = .ok (.istore 5, 2) := by decide +kernel
theorem dX9_bellAt_25 : decode cX9_bellAt 25 = .ok (.iload 5, 2) := by decide +kernel
theorem dX9_bellAt_27 : decode cX9_bellAt 27 = .ok (.bipush 8, 2) := by decide +kernel
theorem dX9_bellAt_29 : decode cX9_bellAt 29 = .ok (.if_icmp .gt 41, 3) := by decide +kernel
theorem dX9_bellAt_32 : decode cX9_bellAt 32 = .ok (.aload_n 0, 1) := by decide +kernel
theorem dX9_bellAt_33 : decode cX9_bellAt 33 = .ok (.getfield 33, 3) := by decide +kernel
theorem dX9_bellAt_36 : decode cX9_bellAt 36 = .ok (.bipush 32, 2) := by decide +kernel
theorem dX9_bellAt_38 : decode cX9_bellAt 38 = .ok (.iload_n 1, 1) := by decide +kernel
theorem dX9_bellAt_39 : decode cX9_bellAt 39 = .ok (.imul, 1) := by decide +kernel
theorem dX9_bellAt_40 : decode cX9_bellAt 40 = .ok (.iload 4, 2) := by decide +kernel
theorem dX9_bellAt_42 : decode cX9_bellAt 42 = .ok (.iadd, 1) := by decide +kernel
theorem dX9_bellAt_43 : decode cX9_bellAt 43 = .ok (.iaload, 1) := by decide +kernel
theorem dX9_bellAt_44 : decode cX9_bellAt 44 = .ok (.iload 5, 2) := by decide +kernel
theorem dX9_bellAt_46 : decode cX9_bellAt 46 = .ok (.ishr, 1) := by decide +kernel
theorem dX9_bellAt_47 : decode cX9_bellAt 47 = .ok (.iconst 1, 1) := by decide +kernel
theorem dX9_bellAt_48 : decode cX9_bellAt 48 = .ok (.iand, 1) := by decide +kernel
theorem dX9_bellAt_49 : decode cX9_bellAt 49 = .ok (.iconst 1, 1) := by decide +kernel
theorem dX9_bellAt_50 : decode cX9_bellAt 50 = .ok (.if_icmp .ne 14, 3) := by decide +kernel
theorem dX9_bellAt_53 : decode cX9_bellAt 53 = .ok (.iload_n 3, 1) := by decide +kernel
theorem dX9_bellAt_54 : decode cX9_bellAt 54 = .ok (.iload_n 2, 1) := by decide +kernel
theorem dX9_bellAt_55 : decode cX9_bellAt 55 = .ok (.if_icmp .ne 6, 3) := by decide +kernel
theorem dX9_bellAt_58 : decode cX9_bellAt 58 = .ok (.iload 5, 2) := by decide +kernel
theorem dX9_bellAt_60 : decode cX9_bellAt 60 = .ok (.ireturn, 1) := by decide +kernel
theorem dX9_bellAt_61 : decode cX9_bellAt 61 = .ok (.iinc 3 1, 3) := by decide +kernel
theorem dX9_bellAt_64 : decode cX9_bellAt 64 = .ok (.iinc 5 1, 3) := by decide +kernel
theorem dX9_bellAt_67 : decode cX9_bellAt 67 = .ok (.goto (-42), 3) := by decide +kernel
theorem dX9_bellAt_70 : decode cX9_bellAt 70 = .ok (.iinc 4 1, 3) := by decide +kernel
theorem dX9_bellAt_73 : decode cX9_bellAt 73 = .ok (.goto (-58), 3) := by decide +kernel
theorem dX9_bellAt_76 : decode cX9_bellAt 76 = .ok (.aload_n 0, 1) := by decide +kernel
theorem dX9_bellAt_77 : decode cX9_bellAt 77 = .ok (.iconst 2, 1) := by decide +kernel
theorem dX9_bellAt_78 : decode cX9_bellAt 78 = .ok (.invokevirtual 67, 3) := by decide +kernel
theorem dX9_bellAt_81 : decode cX9_bellAt 81 = .ok (.ireturn, 1) := by decide +kernel
theorem dX9_setTune_0 : decode cX9_setTune 0 = .ok (.iload_n 1, 1) := by decide +kernel
theorem dX9_setTune_1 : decode cX9_setTune 1 = .ok (.iconst 0, 1) := by decide +kernel
theorem dX9_setTune_2 : decode cX9_setTune 2 = .ok (.bipush 23, 2) := by decide +kernel
theorem dX9_setTune_4 : decode cX9_setTune 4 = .ok (.invokestatic 63, 3) := by decide +kernel
theorem dX9_setTune_7 : decode cX9_setTune 7 = .ok (.ifCond .ne 9, 3) := by decide +kernel
theorem dX9_setTune_10 : decode cX9_setTune 10 = .ok (.aload_n 0, 1) := by decide +kernel
theorem dX9_setTune_11 : decode cX9_setTune 11 = .ok (.iconst 1, 1) := by decide +kernel
theorem dX9_setTune_12 : decode cX9_setTune 12 = .ok (.invokevirtual 67, 3) := by decide +kernel
theorem dX9_setTune_15 : decode cX9_setTune 15 = .ok (.ireturn, 1) := by decide +kernel
theorem dX9_setTune_16 : decode cX9_setTune 16 = .ok (.iload_n 2, 1) := by decide +kernel
theorem dX9_setTune_17 : decode cX9_setTune 17 = .ok (.iconst (-1), 1) := by decide +kernel
theorem dX9_setTune_18 : decode cX9_setTune 18 = .ok (.aload_n 0, 1) := by decide +kernel
theorem dX9_setTune_19 : decode cX9_setTune 19 = .ok (.getfield 168, 3) := by decide +kernel
theorem dX9_setTune_22 : decode cX9_setTune 22 = .ok (.iconst 1, 1) := by decide +kernel
theorem dX9_setTune_23 : decode cX9_setTune 23 = .ok (.isub, 1) := by decide +kernel
theorem dX9_setTune_24 : decode cX9_setTune 24 = .ok (.invokestatic 63, 3) := by decide +kernel
theorem dX9_setTune_27 : decode cX9_setTune 27 = .ok (.ifCond .ne 9, 3) := by decide +kernel
theorem dX9_setTune_30 : decode cX9_setTune 30 = .ok (.aload_n 0, 1) := by decide +kernel
theorem dX9_setTune_31 : decode cX9_setTune 31 = .ok (.iconst 2, 1) := by decide +kernel
theorem dX9_setTune_32 : decode cX9_setTune 32 = .ok (.invokevirtual 67, 3) := by decide +kernel
theorem dX9_setTune_35 : decode cX9_setTune 35 = .ok (.ireturn, 1) := by decide +kernel
theorem dX9_setTune_36 : decode cX9_setTune 36 = .ok (.aload_n 0, 1) := by decide +kernel
theorem dX9_setTune_37 : decode cX9_setTune 37 = .ok (.iconst 0, 1) := by decide +kernel
theorem dX9_setTune_38 : decode cX9_setTune 38 = .ok (.putfield 60, 3) := by decide +kernel
theorem dX9_setTune_41 : decode cX9_setTune 41 = .ok (.aload_n 0, 1) := by decide +kernel
theorem dX9_setTune_42 : decode cX9_setTune 42 = .ok (.getfield 36, 3) := by decide +kernel
theorem dX9_setTune_45 : decode cX9_setTune 45 = .ok (.iload_n 1, 1) := by decide +kernel
theorem dX9_setTune_46 : decode cX9_setTune 46 = .ok (.iaload, 1) := by decide +kernel
theorem dX9_setTune_47 : decode cX9_setTune 47 = .ok (.istore_n 3, 1) := by decide +kernel
theorem dX9_setTune_48 : decode cX9_setTune 48 = .ok (.aload_n 0, 1) := by decide +kernel
theorem dX9_setTune_49 : decode cX9_setTune 49 = .ok (.getfield 36, 3) := by decide +kernel
theorem dX9_setTune_52 : decode cX9_setTune 52 = .ok (.iload_n 1, 1) := by decide +kernel
theorem dX9_setTune_53 : decode cX9_setTune 53 = .ok (.iload_n 2, 1) := by decide +kernel
theorem dX9_setTune_54 : decode cX9_setTune 54 = .ok (.iastore, 1) := by decide +kernel
theorem dX9_setTune_55 : decode cX9_setTune 55 = .ok (.iload_n 3, 1) := by decide +kernel
theorem dX9_setTune_56 : decode cX9_setTune 56 = .ok (.ireturn, 1) := by decide +kernel
theorem dX9_strokes_0 : decode cX9_strokes 0 = .ok (.aload_n 0, 1) := by decide +kernel
theorem dX9_strokes_1 : decode cX9_strokes 1 = .ok (.iload_n 1, 1) := by decide +kernel
theorem dX9_strokes_2 : decode cX9_strokes 2 = .ok (.iconst 0, 1) := by decide +kernel
theorem dX9_strokes_3 : decode cX9_strokes 3 = .ok (.bipush 8, 2) := by decide +kernel
theorem dX9_strokes_5 : decode cX9_strokes 5 = .ok (.invokestatic 63, 3) := by decide +kernel
theorem dX9_strokes_8 : decode cX9_strokes 8 = .ok (.ifCond .eq 7, 3) := by decide +kernel
theorem dX9_strokes_11 : decode cX9_strokes 11 = .ok (.iconst 0, 1) := by decide +kernel
theorem dX9_strokes_12 : decode cX9_strokes 12 = .ok (.goto 4, 3) := by decide +kernel
theorem dX9_strokes_15 : decode cX9_strokes 15 = .ok (.iconst 1, 1) := by decide +kernel
theorem dX9_strokes_16 : decode cX9_strokes 16 = .ok (.putfield 60, 3) := by decide +kernel
theorem dX9_strokes_19 : decode cX9_strokes 19 = .ok (.aload_n 0, 1) := by decide +kernel
theorem dX9_strokes_20 : decode cX9_strokes 20 = .ok (.getfield 60, 3) := by decide +kernel
theorem dX9_strokes_23 : decode cX9_strokes 23 = .ok (.ifCond .ne 12, 3) := by decide +kernel
theorem dX9_strokes_26 : decode cX9_strokes 26 = .ok (.aload_n 0, 1) := by decide +kernel
theorem dX9_strokes_27 : decode cX9_strokes 27 = .ok (.getfield 39, 3) := by decide +kernel
theorem dX9_strokes_30 : decode cX9_strokes 30 = .ok (.iload_n 1, 1) := by decide +kernel
theorem dX9_strokes_31 : decode cX9_strokes 31 = .ok (.iaload, 1) := by decide +kernel
theorem dX9_strokes_32 : decode cX9_strokes 32 = .ok (.goto 4, 3) := by decide +kernel
theorem dX9_strokes_35 : decode cX9_strokes 35 = .ok (.iconst 0, 1) := by decide +kernel
theorem dX9_strokes_36 : decode cX9_strokes 36 = .ok (.ireturn, 1) := by decide +kernel
theorem dX9_strikes__0 : decode cX9_strikes_ 0 = .ok (.aload_n 0, 1) := by decide +kernel
theorem dX9_strikes__1 : decode cX9_strikes_ 1 = .ok (.getfield 109, 3) := by decide +kernel
theorem dX9_strikes__4 : decode cX9_strikes_ 4 = .ok (.ireturn, 1) := by decide +kernel
theorem dX9_kept_0 : decode cX9_kept 0 = .ok (.aload_n 0, 1) := by decide +kernel
theorem dX9_kept_1 : decode cX9_kept 1 = .ok (.getfield 109, 3) := by decide +kernel
theorem dX9_kept_4 : decode cX9_kept 4 = .ok (.bipush 40, 2) := by decide +kernel
theorem dX9_kept_6 : decode cX9_kept 6 = .ok (.if_icmp .ge 10, 3) := by decide +kernel
theorem dX9_kept_9 : decode cX9_kept 9 = .ok (.aload_n 0, 1) := by decide +kernel
theorem dX9_kept_10 : decode cX9_kept 10 = .ok (.getfield 109, 3) := by decide +kernel
theorem dX9_kept_13 : decode cX9_kept 13 = .ok (.goto 5, 3) := by decide +kernel
theorem dX9_kept_16 : decode cX9_kept 16 = .ok (.bipush 40, 2) := by decide +kernel
theorem dX9_kept_18 : decode cX9_kept 18 = .ok (.ireturn, 1) := by decide +kernel
theorem dX9_markAt_0 : decode cX9_markAt 0 = .ok (.iload_n 1, 1) := by decide +kernel
theorem dX9_markAt_1 : decode cX9_markAt 1 = .ok (.iconst 0, 1) := by decide +kernel
theorem dX9_markAt_2 : decode cX9_markAt 2 = .ok (.aload_n 0, 1) := by decide +kernel
theorem dX9_markAt_3 : decode cX9_markAt 3 = .ok (.invokevirtual 179, 3) := by decide +kernel
theorem dX9_markAt_6 : decode cX9_markAt 6 = .ok (.iconst 1, 1) := by decide +kernel
theorem dX9_markAt_7 : decode cX9_markAt 7 = .ok (.isub, 1) := by decide +kernel
theorem dX9_markAt_8 : decode cX9_markAt 8 = .ok (.invokestatic 63, 3) := by decide +kernel
theorem dX9_markAt_11 : decode cX9_markAt 11 = .ok (.ifCond .ne 9, 3) := by decide +kernel
theorem dX9_markAt_14 : decode cX9_markAt 14 = .ok (.aload_n 0, 1) := by decide +kernel
theorem dX9_markAt_15 : decode cX9_markAt 15 = .ok (.iconst 1, 1) := by decide +kernel
theorem dX9_markAt_16 : decode cX9_markAt 16 = .ok (.invokevirtual 67, 3) := by decide +kernel
theorem dX9_markAt_19 : decode cX9_markAt 19 = .ok (.ireturn, 1) := by decide +kernel
theorem dX9_markAt_20 : decode cX9_markAt 20 = .ok (.aload_n 0, 1) := by decide +kernel
theorem dX9_markAt_21 : decode cX9_markAt 21 = .ok (.iconst 0, 1) := by decide +kernel
theorem dX9_markAt_22 : decode cX9_markAt 22 = .ok (.putfield 60, 3) := by decide +kernel
theorem dX9_markAt_25 : decode cX9_markAt 25 = .ok (.aload_n 0, 1) := by decide +kernel
theorem dX9_markAt_26 : decode cX9_markAt 26 = .ok (.getfield 42, 3) := by decide +kernel
theorem dX9_markAt_29 : decode cX9_markAt 29 = .ok (.aload_n 0, 1) := by decide +kernel
theorem dX9_markAt_30 : decode cX9_markAt 30 = .ok (.getfield 109, 3) := by decide +kernel
theorem dX9_markAt_33 : decode cX9_markAt 33 = .ok (.iconst 1, 1) := by decide +kernel
theorem dX9_markAt_34 : decode cX9_markAt 34 = .ok (.isub, 1) := by decide +kernel
theorem dX9_markAt_35 : decode cX9_markAt 35 = .ok (.iload_n 1, 1) := by decide +kernel
theorem dX9_markAt_36 : decode cX9_markAt 36 = .ok (.isub, 1) := by decide +kernel
theorem dX9_markAt_37 : decode cX9_markAt 37 = .ok (.bipush 40, 2) := by decide +kernel
theorem dX9_markAt_39 : decode cX9_markAt 39 = .ok (.irem, 1) := by decide +kernel
theorem dX9_markAt_40 : decode cX9_markAt 40 = .ok (.iaload, 1) := by decide +kernel
theorem dX9_markAt_41 : decode cX9_markAt 41 = .ok (.ireturn, 1) := by decide +kernel
theorem dX9_strokesAt_0 : decode cX9_strokesAt 0 = .ok (.aload_n 0, 1) := by decide +kernel
theorem dX9_strokesAt_1 : decode cX9_strokesAt 1 = .ok (.iconst 0, 1) := by decide +kernel
theorem dX9_strokesAt_2 : decode cX9_strokesAt 2 = .ok (.putfield 60, 3) := by decide +kernel
theorem dX9_strokesAt_5 : decode cX9_strokesAt 5 = .ok (.iconst 0, 1) := by decide +kernel
theorem dX9_strokesAt_6 : decode cX9_strokesAt 6 = .ok (.istore_n 2, 1) := by decide +kernel
theorem dX9_strokesAt_7 : decode cX9_strokesAt 7 = .ok (.iload_n 2, 1) := by decide +kernel
theorem dX9_strokesAt_8 : decode cX9_strokesAt 8 = .ok (.aload_n 0, 1) := by decide +kernel
theorem dX9_strokesAt_9 : decode cX9_strokesAt 9 = .ok (.invokevirtual 179, 3) := by decide +kernel
theorem dX9_strokesAt_12 : decode cX9_strokesAt 12 = .ok (.if_icmp .ge 26, 3) := by decide +kernel
theorem dX9_strokesAt_15 : decode cX9_strokesAt 15 = .ok (.aload_n 0, 1) := by decide +kernel
theorem dX9_strokesAt_16 : decode cX9_strokesAt 16 = .ok (.getfield 42, 3) := by decide +kernel
theorem dX9_strokesAt_19 : decode cX9_strokesAt 19 = .ok (.iload_n 2, 1) := by decide +kernel
theorem dX9_strokesAt_20 : decode cX9_strokesAt 20 = .ok (.iaload, 1) := by decide +kernel
theorem dX9_strokesAt_21 : decode cX9_strokesAt 21 = .ok (.iload_n 1, 1) := by decide +kernel
theorem dX9_strokesAt_22 : decode cX9_strokesAt 22 = .ok (.if_icmp .ne 10, 3) := by decide +kernel
theorem dX9_strokesAt_25 : decode cX9_strokesAt 25 = .ok (.aload_n 0, 1) := by decide +kernel
theorem dX9_strokesAt_26 : decode cX9_strokesAt 26 = .ok (.getfield 45, 3) := by decide +kernel
theorem dX9_strokesAt_29 : decode cX9_strokesAt 29 = .ok (.iload_n 2, 1) := by decide +kernel
theorem dX9_strokesAt_30 : decode cX9_strokesAt 30 = .ok (.iaload, 1) := by decide +kernel
theorem dX9_strokesAt_31 : decode cX9_strokesAt 31 = .ok (.ireturn, 1) := by decide +kernel
theorem dX9_strokesAt_32 : decode cX9_strokesAt 32 = .ok (.iinc 2 1, 3) := by decide +kernel
theorem dX9_strokesAt_35 : decode cX9_strokesAt 35 = .ok (.goto (-28), 3) := by decide +kernel
theorem dX9_strokesAt_38 : decode cX9_strokesAt 38 = .ok (.aload_n 0, 1) := by decide +kernel
theorem dX9_strokesAt_39 : decode cX9_strokesAt 39 = .ok (.iconst 1, 1) := by decide +kernel
theorem dX9_strokesAt_40 : decode cX9_strokesAt 40 = .ok (.invokevirtual 67, 3) := by decide +kernel
theorem dX9_strokesAt_43 : decode cX9_strokesAt 43 = .ok (.ireturn, 1) := by decide +kernel
theorem dX9_strokesAhead_0 : decode cX9_strokesAhead 0 = .ok (.iload_n 1, 1) := by decide +kernel
theorem dX9_strokesAhead_1 : decode cX9_strokesAhead 1 = .ok (.iconst 1, 1) := by decide +kernel
theorem dX9_strokesAhead_2 : decode cX9_strokesAhead 2 = .ok (.sipush 5000, 3) := by decide +kernel
theorem dX9_strokesAhead_5 : decode cX9_strokesAhead 5 = .ok (.invokestatic 63, 3) := by decide +kernel
theorem dX9_strokesAhead_8 : decode cX9_strokesAhead 8 = .ok (.ifCond .ne 9, 3) := by decide +kernel
theorem dX9_strokesAhead_11 : decode cX9_strokesAhead 11 = .ok (.aload_n 0, 1) := by decide +kernel
theorem dX9_strokesAhead_12 : decode cX9_strokesAhead 12 = .ok (.iconst 1, 1) := by decide +kernel
theorem dX9_strokesAhead_13 : decode cX9_strokesAhead 13 = .ok (.invokevirtual 67, 3) := by decide +kernel
theorem dX9_strokesAhead_16 : decode cX9_strokesAhead 16 = .ok (.ireturn, 1) := by decide +kernel
theorem dX9_strokesAhead_17 : decode cX9_strokesAhead 17 = .ok (.aload_n 0, 1) := by decide +kernel
theorem dX9_strokesAhead_18 : decode cX9_strokesAhead 18 = .ok (.iconst 0, 1) := by decide +kernel
theorem dX9_strokesAhead_19 : decode cX9_strokesAhead 19 = .ok (.putfield 60, 3) := by decide +kernel
theorem dX9_strokesAhead_22 : decode cX9_strokesAhead 22 = .ok (.aload_n 0, 1) := by decide +kernel
theorem dX9_strokesAhead_23 : decode cX9_strokesAhead 23 = .ok (.getfield 112, 3) := by decide +kernel
theorem dX9_strokesAhead_26 : decode cX9_strokesAhead 26 = .ok (.istore_n 2, 1) := by decide +kernel
theorem dX9_strokesAhead_27 : decode cX9_strokesAhead 27 = .ok (.aload_n 0, 1) := by decide +kernel
theorem dX9_strokesAhead_28 : decode cX9_strokesAhead 28 = .ok (.getfield 121, 3) := by decide +kernel
theorem dX9_strokesAhead_31 : decode cX9_strokesAhead 31 = .ok (.istore_n 3, 1) := by decide +kernel
theorem dX9_strokesAhead_32 : decode cX9_strokesAhead 32 = .ok (.aload_n 0, 1) := by decide +kernel
theorem dX9_strokesAhead_33 : decode cX9_strokesAhead 33 = .ok (.getfield 115, 3) := by decide +kernel
theorem dX9_strokesAhead_36 : decode cX9_strokesAhead 36 = .ok (.istore 4, 2) := by decide +kernel
theorem dX9_strokesAhead_38 : decode cX9_strokesAhead 38 = .ok (.aload_n 0, 1) := by decide +kernel
theorem dX9_strokesAhead_39 : decode cX9_strokesAhead 39 = .ok (.iconst 0, 1) := by decide +kernel
theorem dX9_strokesAhead_40 : decode cX9_strokesAhead 40 = .ok (.putfield 97, 3) := by decide +kernel
theorem dX9_strokesAhead_43 : decode cX9_strokesAhead 43 = .ok (.aload_n 0, 1) := by decide +kernel
theorem dX9_strokesAhead_44 : decode cX9_strokesAhead 44 = .ok (.aload_n 0, 1) := by decide +kernel
theorem dX9_strokesAhead_45 : decode cX9_strokesAhead 45 = .ok (.iload_n 1, 1) := by decide +kernel
theorem dX9_strokesAhead_46 : decode cX9_strokesAhead 46 = .ok (.invokevirtual 124, 3) := by decide +kernel
theorem dX9_strokesAhead_49 : decode cX9_strokesAhead 49 = .ok (.invokevirtual 128, 3) := by decide +kernel
theorem dX9_strokesAhead_52 : decode cX9_strokesAhead 52 = .ok (.istore 5, 2) := by decide +kernel
theorem dX9_strokesAhead_54 : decode cX9_strokesAhead 54 = .ok (.aload_n 0, 1) := by decide +kernel
theorem dX9_strokesAhead_55 : decode cX9_strokesAhead 55 = .ok (.iload_n 2, 1) := by decide +kernel
theorem dX9_strokesAhead_56 : decode cX9_strokesAhead 56 = .ok (.putfield 112, 3) := by decide +kernel
theorem dX9_strokesAhead_59 : decode cX9_strokesAhead 59 = .ok (.aload_n 0, 1) := by decide +kernel
theorem dX9_strokesAhead_60 : decode cX9_strokesAhead 60 = .ok (.iload_n 3, 1) := by decide +kernel
theorem dX9_strokesAhead_61 : decode cX9_strokesAhead 61 = .ok (.putfield 121, 3) := by decide +kernel
theorem dX9_strokesAhead_64 : decode cX9_strokesAhead 64 = .ok (.aload_n 0, 1) := by decide +kernel
theorem dX9_strokesAhead_65 : decode cX9_strokesAhead 65 = .ok (.iload 4, 2) := by decide +kernel
theorem dX9_strokesAhead_67 : decode cX9_strokesAhead 67 = .ok (.putfield 115, 3) := by decide +kernel
theorem dX9_strokesAhead_70 : decode cX9_strokesAhead 70 = .ok (.iload 5, 2) := by decide +kernel
theorem dX9_strokesAhead_72 : decode cX9_strokesAhead 72 = .ok (.ireturn, 1) := by decide +kernel
theorem dX9_strokesByBeats_0 : decode cX9_strokesByBeats 0 = .ok (.aload_n 0, 1) := by decide +kernel
theorem dX9_strokesByBeats_1 : decode cX9_strokesByBeats 1 = .ok (.iload_n 1, 1) := by decide +kernel
theorem dX9_strokesByBeats_2 : decode cX9_strokesByBeats 2 = .ok (.invokevirtual 182, 3) := by decide +kernel
theorem dX9_strokesByBeats_5 : decode cX9_strokesByBeats 5 = .ok (.ireturn, 1) := by decide +kernel
theorem dX9_struckShare_0 : decode cX9_struckShare 0 = .ok (.aload_n 0, 1) := by decide +kernel
theorem dX9_struckShare_1 : decode cX9_struckShare 1 = .ok (.aload_n 0, 1) := by decide +kernel
theorem dX9_struckShare_2 : decode cX9_struckShare 2 = .ok (.getfield 115, 3) := by decide +kernel
theorem dX9_struckShare_5 : decode cX9_struckShare 5 = .ok (.ifCond .ne 7, 3) := by decide +kernel
theorem dX9_struckShare_8 : decode cX9_struckShare 8 = .ok (.iconst 1, 1) := by decide +kernel
theorem dX9_struckShare_9 : decode cX9_struckShare 9 = .ok (.goto 4, 3) := by decide +kernel
theorem dX9_struckShare_12 : decode cX9_struckShare 12 = .ok (.iconst 0, 1) := by decide +kernel
theorem dX9_struckShare_13 : decode cX9_struckShare 13 = .ok (.putfield 60, 3) := by decide +kernel
theorem dX9_struckShare_16 : decode cX9_struckShare 16 = .ok (.aload_n 0, 1) := by decide +kernel
theorem dX9_struckShare_17 : decode cX9_struckShare 17 = .ok (.getfield 115, 3) := by decide +kernel
theorem dX9_struckShare_20 : decode cX9_struckShare 20 = .ok (.ifCond .ne 7, 3) := by decide +kernel
theorem dX9_struckShare_23 : decode cX9_struckShare 23 = .ok (.fconst 0, 1) := by decide +kernel
theorem dX9_struckShare_24 : decode cX9_struckShare 24 = .ok (.goto 14, 3) := by decide +kernel
theorem dX9_struckShare_27 : decode cX9_struckShare 27 = .ok (.aload_n 0, 1) := by decide +kernel
theorem dX9_struckShare_28 : decode cX9_struckShare 28 = .ok (.getfield 109, 3) := by decide +kernel
theorem dX9_struckShare_31 : decode cX9_struckShare 31 = .ok (.i2f, 1) := by decide +kernel
theorem dX9_struckShare_32 : decode cX9_struckShare 32 = .ok (.aload_n 0, 1) := by decide +kernel
theorem dX9_struckShare_33 : decode cX9_struckShare 33 = .ok (.getfield 115, 3) := by decide +kernel
theorem dX9_struckShare_36 : decode cX9_struckShare 36 = .ok (.i2f, 1) := by decide +kernel
theorem dX9_struckShare_37 : decode cX9_struckShare 37 = .ok (.fdiv, 1) := by decide +kernel
theorem dX9_struckShare_38 : decode cX9_struckShare 38 = .ok (.freturn, 1) := by decide +kernel
theorem dX9_isOnce_0 : decode cX9_isOnce 0 = .ok (.iconst 1, 1) := by decide +kernel
theorem dX9_isOnce_1 : decode cX9_isOnce 1 = .ok (.ireturn, 1) := by decide +kernel
