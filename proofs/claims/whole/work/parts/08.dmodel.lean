theorem dX7_init_0 : decode cX7_init 0 = .ok (.aload_n 0, 1) := by decide +kernel
theorem dX7_init_1 : decode cX7_init 1 = .ok (.invokespecial 1, 3) := by decide +kernel
theorem dX7_init_4 : decode cX7_init 4 = .ok (.aload_n 0, 1) := by decide +kernel
theorem dX7_init_5 : decode cX7_init 5 = .ok (.sipush 735, 3) := by decide +kernel
theorem dX7_init_8 : decode cX7_init 8 = .ok (.newarray .int, 2) := by decide +kernel
theorem dX7_init_10 : decode cX7_init 10 = .ok (.putfield 7, 3) := by decide +kernel
theorem dX7_init_13 : decode cX7_init 13 = .ok (.aload_n 0, 1) := by decide +kernel
theorem dX7_init_14 : decode cX7_init 14 = .ok (.sipush 735, 3) := by decide +kernel
theorem dX7_init_17 : decode cX7_init 17 = .ok (.newarray .int, 2) := by decide +kernel
theorem dX7_init_19 : decode cX7_init 19 = .ok (.putfield 13, 3) := by decide +kernel
theorem dX7_init_22 : decode cX7_init 22 = .ok (.aload_n 0, 1) := by decide +kernel
theorem dX7_init_23 : decode cX7_init 23 = .ok (.sipush 735, 3) := by decide +kernel
theorem dX7_init_26 : decode cX7_init 26 = .ok (.newarray .int, 2) := by decide +kernel
theorem dX7_init_28 : decode cX7_init 28 = .ok (.putfield 16, 3) := by decide +kernel
theorem dX7_init_31 : decode cX7_init 31 = .ok (.aload_n 0, 1) := by decide +kernel
theorem dX7_init_32 : decode cX7_init 32 = .ok (.bipush 7, 2) := by decide +kernel
theorem dX7_init_34 : decode cX7_init 34 = .ok (.newarray .int, 2) := by decide +kernel
theorem dX7_init_36 : decode cX7_init 36 = .ok (.putfield 19, 3) := by decide +kernel
theorem dX7_init_39 : decode cX7_init 39 = .ok (.aload_n 0, 1) := by decide +kernel
theorem dX7_init_40 : decode cX7_init 40 = .ok (.bipush 36, 2) := by decide +kernel
theorem dX7_init_42 : decode cX7_init 42 = .ok (.newarray .int, 2) := by decide +kernel
theorem dX7_init_44 : decode cX7_init 44 = .ok (.putfield 22, 3) := by decide +kernel
theorem dX7_init_47 : decode cX7_init 47 = .ok (.aload_n 0, 1) := by decide +kernel
theorem dX7_init_48 : decode cX7_init 48 = .ok (.bipush 6, 2) := by decide +kernel
theorem dX7_init_50 : decode cX7_init 50 = .ok (.newarray .int, 2) := by decide +kernel
theorem dX7_init_52 : decode cX7_init 52 = .ok (.putfield 25, 3) := by decide +kernel
theorem dX7_init_55 : decode cX7_init 55 = .ok (.aload_n 0, 1) := by decide +kernel
theorem dX7_init_56 : decode cX7_init 56 = .ok (.bipush 6, 2) := by decide +kernel
theorem dX7_init_58 : decode cX7_init 58 = .ok (.newarray .int, 2) := by decide +kernel
theorem dX7_init_60 : decode cX7_init 60 = .ok (.putfield 28, 3) := by decide +kernel
theorem dX7_init_63 : decode cX7_init 63 = .ok (.aload_n 0, 1) := by decide +kernel
theorem dX7_init_64 : decode cX7_init 64 = .ok (.bipush 120, 2) := by decide +kernel
theorem dX7_init_66 : decode cX7_init 66 = .ok (.newarray .int, 2) := by decide +kernel
theorem dX7_init_68 : decode cX7_init 68 = .ok (.putfield 31, 3) := by decide +kernel
theorem dX7_init_71 : decode cX7_init 71 = .ok (.aload_n 0, 1) := by decide +kernel
theorem dX7_init_72 : decode cX7_init 72 = .ok (.iconst 4, 1) := by decide +kernel
theorem dX7_init_73 : decode cX7_init 73 = .ok (.newarray .int, 2) := by decide +kernel
theorem dX7_init_75 : decode cX7_init 75 = .ok (.putfield 34, 3) := by decide +kernel
theorem dX7_init_78 : decode cX7_init 78 = .ok (.aload_n 0, 1) := by decide +kernel
theorem dX7_init_79 : decode cX7_init 79 = .ok (.iconst 4, 1) := by decide +kernel
theorem dX7_init_80 : decode cX7_init 80 = .ok (.newarray .int, 2) := by decide +kernel
theorem dX7_init_82 : decode cX7_init 82 = .ok (.putfield 37, 3) := by decide +kernel
theorem dX7_init_85 : decode cX7_init 85 = .ok (.aload_n 0, 1) := by decide +kernel
theorem dX7_init_86 : decode cX7_init 86 = .ok (.sipush 160, 3) := by decide +kernel
theorem dX7_init_89 : decode cX7_init 89 = .ok (.newarray .int, 2) := by decide +kernel
theorem dX7_init_91 : decode cX7_init 91 = .ok (.putfield 40, 3) := by decide +kernel
theorem dX7_init_94 : decode cX7_init 94 = .ok (.aload_n 0, 1) := by decide +kernel
theorem dX7_init_95 : decode cX7_init 95 = .ok (.bipush 40, 2) := by decide +kernel
theorem dX7_init_97 : decode cX7_init 97 = .ok (.newarray .int, 2) := by decide +kernel
theorem dX7_init_99 : decode cX7_init 99 = .ok (.putfield 43, 3) := by decide +kernel
theorem dX7_init_102 : decode cX7_init 102 = .ok (.aload_n 0, 1) := by decide +kernel
theorem dX7_init_103 : decode cX7_init 103 = .ok (.getfield 7, 3) := by decide +kernel
theorem dX7_init_106 : decode cX7_init 106 = .ok (.iconst 2, 1) := by decide +kernel
theorem dX7_init_107 : decode cX7_init 107 = .ok (.iconst 1, 1) := by decide +kernel
theorem dX7_init_108 : decode cX7_init 108 = .ok (.iastore, 1) := by decide +kernel
theorem dX7_init_109 : decode cX7_init 109 = .ok (.iconst 0, 1) := by decide +kernel
theorem dX7_init_110 : decode cX7_init 110 = .ok (.istore_n 1, 1) := by decide +kernel
theorem dX7_init_111 : decode cX7_init 111 = .ok (.iload_n 1, 1) := by decide +kernel
theorem dX7_init_112 : decode cX7_init 112 = .ok (.bipush 36, 2) := by decide +kernel
theorem dX7_init_114 : decode cX7_init 114 = .ok (.if_icmp .ge 18, 3) := by decide +kernel
theorem dX7_init_117 : decode cX7_init 117 = .ok (.aload_n 0, 1) := by decide +kernel
theorem dX7_init_118 : decode cX7_init 118 = .ok (.getfield 7, 3) := by decide +kernel
theorem dX7_init_121 : decode cX7_init 121 = .ok (.iconst 3, 1) := by decide +kernel
theorem dX7_init_122 : decode cX7_init 122 = .ok (.iload_n 1, 1) := by decide +kernel
theorem dX7_init_123 : decode cX7_init 123 = .ok (.iadd, 1) := by decide +kernel
theorem dX7_init_124 : decode cX7_init 124 = .ok (.iconst (-1), 1) := by decide +kernel
theorem dX7_init_125 : decode cX7_init 125 = .ok (.iastore, 1) := by decide +kernel
theorem dX7_init_126 : decode cX7_init 126 = .ok (.iinc 1 1, 3) := by decide +kernel
theorem dX7_init_129 : decode cX7_init 129 = .ok (.goto (-18), 3) := by decide +kernel
theorem dX7_init_132 : decode cX7_init 132 = .ok (.iconst 0, 1) := by decide +kernel
theorem dX7_init_133 : decode cX7_init 133 = .ok (.istore_n 1, 1) := by decide +kernel
theorem dX7_init_134 : decode cX7_init 134 = .ok (.iload_n 1, 1) := by decide +kernel
theorem dX7_init_135 : decode cX7_init 135 = .ok (.bipush 10, 2) := by decide +kernel
theorem dX7_init_137 : decode cX7_init 137 = .ok (.if_icmp .ge 20, 3) := by decide +kernel
theorem dX7_init_140 : decode cX7_init 140 = .ok (.aload_n 0, 1) := by decide +kernel
theorem dX7_init_141 : decode cX7_init 141 = .ok (.getfield 7, 3) := by decide +kernel
theorem dX7_init_144 : decode cX7_init 144 = .ok (.sipush 725, 3) := by decide +kernel
theorem dX7_init_147 : decode cX7_init 147 = .ok (.iload_n 1, 1) := by decide +kernel
theorem dX7_init_148 : decode cX7_init 148 = .ok (.iadd, 1) := by decide +kernel
theorem dX7_init_149 : decode cX7_init 149 = .ok (.iconst (-1), 1) := by decide +kernel
theorem dX7_init_150 : decode cX7_init 150 = .ok (.iastore, 1) := by decide +kernel
theorem dX7_init_151 : decode cX7_init 151 = .ok (.iinc 1 1, 3) := by decide +kernel
theorem dX7_init_154 : decode cX7_init 154 = .ok (.goto (-20), 3) := by decide +kernel
theorem dX7_init_157 : decode cX7_init 157 = .ok (.return_, 1) := by decide +kernel
theorem dX7_in_0 : decode cX7_in 0 = .ok (.lload_n 0, 1) := by decide +kernel
theorem dX7_in_1 : decode cX7_in 1 = .ok (.lload_n 2, 1) := by decide +kernel
theorem dX7_in_2 : decode cX7_in 2 = .ok (.lcmp, 1) := by decide +kernel
theorem dX7_in_3 : decode cX7_in 3 = .ok (.ifCond .lt 14, 3) := by decide +kernel
theorem dX7_in_6 : decode cX7_in 6 = .ok (.lload_n 0, 1) := by decide +kernel
theorem dX7_in_7 : decode cX7_in 7 = .ok (.lload 4, 2) := by decide +kernel
theorem dX7_in_9 : decode cX7_in 9 = .ok (.lcmp, 1) := by decide +kernel
theorem dX7_in_10 : decode cX7_in 10 = .ok (.ifCond .gt 7, 3) := by decide +kernel
theorem dX7_in_13 : decode cX7_in 13 = .ok (.iconst 1, 1) := by decide +kernel
theorem dX7_in_14 : decode cX7_in 14 = .ok (.goto 4, 3) := by decide +kernel
theorem dX7_in_17 : decode cX7_in 17 = .ok (.iconst 0, 1) := by decide +kernel
theorem dX7_in_18 : decode cX7_in 18 = .ok (.ireturn, 1) := by decide +kernel
theorem dX7_finds_0 : decode cX7_finds 0 = .ok (.aload_n 0, 1) := by decide +kernel
theorem dX7_finds_1 : decode cX7_finds 1 = .ok (.getfield 19, 3) := by decide +kernel
theorem dX7_finds_4 : decode cX7_finds 4 = .ok (.ldc 46, 2) := by decide +kernel
theorem dX7_finds_6 : decode cX7_finds 6 = .ok (.iload_n 1, 1) := by decide +kernel
theorem dX7_finds_7 : decode cX7_finds 7 = .ok (.isub, 1) := by decide +kernel
theorem dX7_finds_8 : decode cX7_finds 8 = .ok (.dup2, 1) := by decide +kernel
theorem dX7_finds_9 : decode cX7_finds 9 = .ok (.iaload, 1) := by decide +kernel
theorem dX7_finds_10 : decode cX7_finds 10 = .ok (.iconst 1, 1) := by decide +kernel
theorem dX7_finds_11 : decode cX7_finds 11 = .ok (.iadd, 1) := by decide +kernel
theorem dX7_finds_12 : decode cX7_finds 12 = .ok (.iastore, 1) := by decide +kernel
theorem dX7_finds_13 : decode cX7_finds 13 = .ok (.iload_n 1, 1) := by decide +kernel
theorem dX7_finds_14 : decode cX7_finds 14 = .ok (.ireturn, 1) := by decide +kernel
theorem dX7_isCell_0 : decode cX7_isCell 0 = .ok (.iload_n 0, 1) := by decide +kernel
theorem dX7_isCell_1 : decode cX7_isCell 1 = .ok (.i2l, 1) := by decide +kernel
theorem dX7_isCell_2 : decode cX7_isCell 2 = .ok (.lconst 0, 1) := by decide +kernel
theorem dX7_isCell_3 : decode cX7_isCell 3 = .ok (.ldc2_w 47, 3) := by decide +kernel
theorem dX7_isCell_6 : decode cX7_isCell 6 = .ok (.invokestatic 49, 3) := by decide +kernel
theorem dX7_isCell_9 : decode cX7_isCell 9 = .ok (.ireturn, 1) := by decide +kernel
theorem dX7_isOwner_0 : decode cX7_isOwner 0 = .ok (.iload_n 0, 1) := by decide +kernel
theorem dX7_isOwner_1 : decode cX7_isOwner 1 = .ok (.i2l, 1) := by decide +kernel
theorem dX7_isOwner_2 : decode cX7_isOwner 2 = .ok (.lconst 0, 1) := by decide +kernel
theorem dX7_isOwner_3 : decode cX7_isOwner 3 = .ok (.ldc2_w 53, 3) := by decide +kernel
theorem dX7_isOwner_6 : decode cX7_isOwner 6 = .ok (.invokestatic 49, 3) := by decide +kernel
theorem dX7_isOwner_9 : decode cX7_isOwner 9 = .ok (.ireturn, 1) := by decide +kernel
theorem dX7_isClock_0 : decode cX7_isClock 0 = .ok (.iload_n 0, 1) := by decide +kernel
theorem dX7_isClock_1 : decode cX7_isClock 1 = .ok (.i2l, 1) := by decide +kernel
theorem dX7_isClock_2 : decode cX7_isClock 2 = .ok (.lconst 0, 1) := by decide +kernel
theorem dX7_isClock_3 : decode cX7_isClock 3 = .ok (.ldc2_w 55, 3) := by decide +kernel
theorem dX7_isClock_6 : decode cX7_isClock 6 = .ok (.invokestatic 49, 3) := by decide +kernel
theorem dX7_isClock_9 : decode cX7_isClock 9 = .ok (.ireturn, 1) := by decide +kernel
theorem dX7_isChimney_0 : decode cX7_isChimney 0 = .ok (.iload_n 1, 1) := by decide +kernel
theorem dX7_isChimney_1 : decode cX7_isChimney 1 = .ok (.i2l, 1) := by decide +kernel
theorem dX7_isChimney_2 : decode cX7_isChimney 2 = .ok (.lconst 0, 1) := by decide +kernel
theorem dX7_isChimney_3 : decode cX7_isChimney 3 = .ok (.aload_n 0, 1) := by decide +kernel
theorem dX7_isChimney_4 : decode cX7_isChimney 4 = .ok (.getfield 7, 3) := by decide +kernel
theorem dX7_isChimney_7 : decode cX7_isChimney 7 = .ok (.iconst 1, 1) := by decide +kernel
theorem dX7_isChimney_8 : decode cX7_isChimney 8 = .ok (.iaload, 1) := by decide +kernel
theorem dX7_isChimney_9 : decode cX7_isChimney 9 = .ok (.iconst 1, 1) := by decide +kernel
theorem dX7_isChimney_10 : decode cX7_isChimney 10 = .ok (.isub, 1) := by decide +kernel
theorem dX7_isChimney_11 : decode cX7_isChimney 11 = .ok (.i2l, 1) := by decide +kernel
theorem dX7_isChimney_12 : decode cX7_isChimney 12 = .ok (.invokestatic 49, 3) := by decide +kernel
theorem dX7_isChimney_15 : decode cX7_isChimney 15 = .ok (.ireturn, 1) := by decide +kernel
theorem dX7_has_0 : decode cX7_has 0 = .ok (.iload_n 0, 1) := by decide +kernel
theorem dX7_has_1 : decode cX7_has 1 = .ok (.iload_n 1, 1) := by decide +kernel
theorem dX7_has_2 : decode cX7_has 2 = .ok (.ishr, 1) := by decide +kernel
theorem dX7_has_3 : decode cX7_has 3 = .ok (.iconst 1, 1) := by decide +kernel
theorem dX7_has_4 : decode cX7_has 4 = .ok (.iand, 1) := by decide +kernel
theorem dX7_has_5 : decode cX7_has 5 = .ok (.iconst 1, 1) := by decide +kernel
theorem dX7_has_6 : decode cX7_has 6 = .ok (.if_icmp .ne 7, 3) := by decide +kernel
theorem dX7_has_9 : decode cX7_has 9 = .ok (.iconst 1, 1) := by decide +kernel
theorem dX7_has_10 : decode cX7_has 10 = .ok (.goto 4, 3) := by decide +kernel
theorem dX7_has_13 : decode cX7_has 13 = .ok (.iconst 0, 1) := by decide +kernel
theorem dX7_has_14 : decode cX7_has 14 = .ok (.ireturn, 1) := by decide +kernel
theorem dX7_next_0 : decode cX7_next 0 = .ok (.aload_n 0, 1) := by decide +kernel
theorem dX7_next_1 : decode cX7_next 1 = .ok (.getfield 7, 3) := by decide +kernel
theorem dX7_next_4 : decode cX7_next 4 = .ok (.iconst 2, 1) := by decide +kernel
theorem dX7_next_5 : decode cX7_next 5 = .ok (.aload_n 0, 1) := by decide +kernel
theorem dX7_next_6 : decode cX7_next 6 = .ok (.getfield 7, 3) := by decide +kernel
theorem dX7_next_9 : decode cX7_next 9 = .ok (.iconst 2, 1) := by decide +kernel
theorem dX7_next_10 : decode cX7_next 10 = .ok (.iaload, 1) := by decide +kernel
theorem dX7_next_11 : decode cX7_next 11 = .ok (.ldc 57, 2) := by decide +kernel
theorem dX7_next_13 : decode cX7_next 13 = .ok (.imul, 1) := by decide +kernel
theorem dX7_next_14 : decode cX7_next 14 = .ok (.sipush 12345, 3) := by decide +kernel
theorem dX7_next_17 : decode cX7_next 17 = .ok (.iadd, 1) := by decide +kernel
theorem dX7_next_18 : decode cX7_next 18 = .ok (.iastore, 1) := by decide +kernel
theorem dX7_next_19 : decode cX7_next 19 = .ok (.aload_n 0, 1) := by decide +kernel
theorem dX7_next_20 : decode cX7_next 20 = .ok (.getfield 7, 3) := by decide +kernel
theorem dX7_next_23 : decode cX7_next 23 = .ok (.iconst 2, 1) := by decide +kernel
theorem dX7_next_24 : decode cX7_next 24 = .ok (.iaload, 1) := by decide +kernel
theorem dX7_next_25 : decode cX7_next 25 = .ok (.bipush 8, 2) := by decide +kernel
theorem dX7_next_27 : decode cX7_next 27 = .ok (.iushr, 1) := by decide +kernel
theorem dX7_next_28 : decode cX7_next 28 = .ok (.ireturn, 1) := by decide +kernel
theorem dX7_puts_0 : decode cX7_puts 0 = .ok (.iconst 0, 1) := by decide +kernel
theorem dX7_puts_1 : decode cX7_puts 1 = .ok (.istore_n 1, 1) := by decide +kernel
theorem dX7_puts_2 : decode cX7_puts 2 = .ok (.iload_n 1, 1) := by decide +kernel
theorem dX7_puts_3 : decode cX7_puts 3 = .ok (.sipush 735, 3) := by decide +kernel
theorem dX7_puts_6 : decode cX7_puts 6 = .ok (.if_icmp .ge 21, 3) := by decide +kernel
theorem dX7_puts_9 : decode cX7_puts 9 = .ok (.aload_n 0, 1) := by decide +kernel
theorem dX7_puts_10 : decode cX7_puts 10 = .ok (.getfield 16, 3) := by decide +kernel
theorem dX7_puts_13 : decode cX7_puts 13 = .ok (.iload_n 1, 1) := by decide +kernel
theorem dX7_puts_14 : decode cX7_puts 14 = .ok (.aload_n 0, 1) := by decide +kernel
theorem dX7_puts_15 : decode cX7_puts 15 = .ok (.getfield 7, 3) := by decide +kernel
theorem dX7_puts_18 : decode cX7_puts 18 = .ok (.iload_n 1, 1) := by decide +kernel
theorem dX7_puts_19 : decode cX7_puts 19 = .ok (.iaload, 1) := by decide +kernel
theorem dX7_puts_20 : decode cX7_puts 20 = .ok (.iastore, 1) := by decide +kernel
theorem dX7_puts_21 : decode cX7_puts 21 = .ok (.iinc 1 1, 3) := by decide +kernel
theorem dX7_puts_24 : decode cX7_puts 24 = .ok (.goto (-22), 3) := by decide +kernel
theorem dX7_puts_27 : decode cX7_puts 27 = .ok (.return_, 1) := by decide +kernel
theorem dX7_putsBack_0 : decode cX7_putsBack 0 = .ok (.iconst 0, 1) := by decide +kernel
theorem dX7_putsBack_1 : decode cX7_putsBack 1 = .ok (.istore_n 1, 1) := by decide +kernel
theorem dX7_putsBack_2 : decode cX7_putsBack 2 = .ok (.iload_n 1, 1) := by decide +kernel
theorem dX7_putsBack_3 : decode cX7_putsBack 3 = .ok (.sipush 735, 3) := by decide +kernel
theorem dX7_putsBack_6 : decode cX7_putsBack 6 = .ok (.if_icmp .ge 21, 3) := by decide +kernel
theorem dX7_putsBack_9 : decode cX7_putsBack 9 = .ok (.aload_n 0, 1) := by decide +kernel
theorem dX7_putsBack_10 : decode cX7_putsBack 10 = .ok (.getfield 7, 3) := by decide +kernel
theorem dX7_putsBack_13 : decode cX7_putsBack 13 = .ok (.iload_n 1, 1) := by decide +kernel
theorem dX7_putsBack_14 : decode cX7_putsBack 14 = .ok (.aload_n 0, 1) := by decide +kernel
theorem dX7_putsBack_15 : decode cX7_putsBack 15 = .ok (.getfield 16, 3) := by decide +kernel
theorem dX7_putsBack_18 : decode cX7_putsBack 18 = .ok (.iload_n 1, 1) := by decide +kernel
theorem dX7_putsBack_19 : decode cX7_putsBack 19 = .ok (.iaload, 1) := by decide +kernel
theorem dX7_putsBack_20 : decode cX7_putsBack 20 = .ok (.iastore, 1) := by decide +kernel
theorem dX7_putsBack_21 : decode cX7_putsBack 21 = .ok (.iinc 1 1, 3) := by decide +kernel
theorem dX7_putsBack_24 : decode cX7_putsBack 24 = .ok (.goto (-22), 3) := by decide +kernel
theorem dX7_putsBack_27 : decode cX7_putsBack 27 = .ok (.return_, 1) := by decide +kernel
theorem dX7_roof_0 : decode cX7_roof 0 = .ok (.iload_n 1, 1) := by decide +kernel
theorem dX7_roof_1 : decode cX7_roof 1 = .ok (.invokestatic 58, 3) := by decide +kernel
theorem dX7_roof_4 : decode cX7_roof 4 = .ok (.ifCond .eq 17, 3) := by decide +kernel
theorem dX7_roof_7 : decode cX7_roof 7 = .ok (.iload_n 2, 1) := by decide +kernel
theorem dX7_roof_8 : decode cX7_roof 8 = .ok (.i2l, 1) := by decide +kernel
theorem dX7_roof_9 : decode cX7_roof 9 = .ok (.ldc2_w 62, 3) := by decide +kernel
theorem dX7_roof_12 : decode cX7_roof 12 = .ok (.ldc2_w 53, 3) := by decide +kernel
theorem dX7_roof_15 : decode cX7_roof 15 = .ok (.invokestatic 49, 3) := by decide +kernel
theorem dX7_roof_18 : decode cX7_roof 18 = .ok (.ifCond .ne 10, 3) := by decide +kernel
theorem dX7_roof_21 : decode cX7_roof 21 = .ok (.aload_n 0, 1) := by decide +kernel
theorem dX7_roof_22 : decode cX7_roof 22 = .ok (.ldc 46, 2) := by decide +kernel
theorem dX7_roof_24 : decode cX7_roof 24 = .ok (.invokevirtual 64, 3) := by decide +kernel
theorem dX7_roof_27 : decode cX7_roof 27 = .ok (.ireturn, 1) := by decide +kernel
theorem dX7_roof_28 : decode cX7_roof 28 = .ok (.aload_n 0, 1) := by decide +kernel
theorem dX7_roof_29 : decode cX7_roof 29 = .ok (.getfield 7, 3) := by decide +kernel
theorem dX7_roof_32 : decode cX7_roof 32 = .ok (.iconst 3, 1) := by decide +kernel
theorem dX7_roof_33 : decode cX7_roof 33 = .ok (.iload_n 1, 1) := by decide +kernel
theorem dX7_roof_34 : decode cX7_roof 34 = .ok (.iadd, 1) := by decide +kernel
theorem dX7_roof_35 : decode cX7_roof 35 = .ok (.iaload, 1) := by decide +kernel
theorem dX7_roof_36 : decode cX7_roof 36 = .ok (.istore_n 3, 1) := by decide +kernel
theorem dX7_roof_37 : decode cX7_roof 37 = .ok (.aload_n 0, 1) := by decide +kernel
theorem dX7_roof_38 : decode cX7_roof 38 = .ok (.getfield 7, 3) := by decide +kernel
theorem dX7_roof_41 : decode cX7_roof 41 = .ok (.iconst 3, 1) := by decide +kernel
theorem dX7_roof_42 : decode cX7_roof 42 = .ok (.iload_n 1, 1) := by decide +kernel
theorem dX7_roof_43 : decode cX7_roof 43 = .ok (.iadd, 1) := by decide +kernel
theorem dX7_roof_44 : decode cX7_roof 44 = .ok (.iload_n 2, 1) := by decide +kernel
theorem dX7_roof_45 : decode cX7_roof 45 = .ok (.iastore, 1) := by decide +kernel
theorem dX7_roof_46 : decode cX7_roof 46 = .ok (.iload_n 3, 1) := by decide +kernel
theorem dX7_roof_47 : decode cX7_roof 47 = .ok (.ireturn, 1) := by decide +kernel
theorem dX7_wind_0 : decode cX7_wind 0 = .ok (.iload_n 1, 1) := by decide +kernel
theorem dX7_wind_1 : decode cX7_wind 1 = .ok (.invokestatic 68, 3) := by decide +kernel
theorem dX7_wind_4 : decode cX7_wind 4 = .ok (.ifCond .eq 15, 3) := by decide +kernel
theorem dX7_wind_7 : decode cX7_wind 7 = .ok (.iload_n 2, 1) := by decide +kernel
theorem dX7_wind_8 : decode cX7_wind 8 = .ok (.i2l, 1) := by decide +kernel
theorem dX7_wind_9 : decode cX7_wind 9 = .ok (.lconst 0, 1) := by decide +kernel
theorem dX7_wind_10 : decode cX7_wind 10 = .ok (.ldc2_w 71, 3) := by decide +kernel
theorem dX7_wind_13 : decode cX7_wind 13 = .ok (.invokestatic 49, 3) := by decide +kernel
theorem dX7_wind_16 : decode cX7_wind 16 = .ok (.ifCond .ne 10, 3) := by decide +kernel
theorem dX7_wind_19 : decode cX7_wind 19 = .ok (.aload_n 0, 1) := by decide +kernel
theorem dX7_wind_20 : decode cX7_wind 20 = .ok (.ldc 46, 2) := by decide +kernel
theorem dX7_wind_22 : decode cX7_wind 22 = .ok (.invokevirtual 64, 3) := by decide +kernel
theorem dX7_wind_25 : decode cX7_wind 25 = .ok (.ireturn, 1) := by decide +kernel
theorem dX7_wind_26 : decode cX7_wind 26 = .ok (.aload_n 0, 1) := by decide +kernel
theorem dX7_wind_27 : decode cX7_wind 27 = .ok (.getfield 7, 3) := by decide +kernel
theorem dX7_wind_30 : decode cX7_wind 30 = .ok (.bipush 39, 2) := by decide +kernel
theorem dX7_wind_32 : decode cX7_wind 32 = .ok (.iload_n 1, 1) := by decide +kernel
theorem dX7_wind_33 : decode cX7_wind 33 = .ok (.iadd, 1) := by decide +kernel
theorem dX7_wind_34 : decode cX7_wind 34 = .ok (.iaload, 1) := by decide +kernel
theorem dX7_wind_35 : decode cX7_wind 35 = .ok (.istore_n 3, 1) := by decide +kernel
theorem dX7_wind_36 : decode cX7_wind 36 = .ok (.aload_n 0, 1) := by decide +kernel
theorem dX7_wind_37 : decode cX7_wind 37 = .ok (.getfield 7, 3) := by decide +kernel
theorem dX7_wind_40 : decode cX7_wind 40 = .ok (.bipush 39, 2) := by decide +kernel
theorem dX7_wind_42 : decode cX7_wind 42 = .ok (.iload_n 1, 1) := by decide +kernel
theorem dX7_wind_43 : decode cX7_wind 43 = .ok (.iadd, 1) := by decide +kernel
theorem dX7_wind_44 : decode cX7_wind 44 = .ok (.iload_n 2, 1) := by decide +kernel
theorem dX7_wind_45 : decode cX7_wind 45 = .ok (.iastore, 1) := by decide +kernel
theorem dX7_wind_46 : decode cX7_wind 46 = .ok (.iload_n 3, 1) := by decide +kernel
theorem dX7_wind_47 : decode cX7_wind 47 = .ok (.ireturn, 1) := by decide +kernel
theorem dX7_at_0 : decode cX7_at 0 = .ok (.bipush 63, 2) := by decide +kernel
theorem dX7_at_2 : decode cX7_at 2 = .ok (.bipush 7, 2) := by decide +kernel
theorem dX7_at_4 : decode cX7_at 4 = .ok (.iload_n 0, 1) := by decide +kernel
theorem dX7_at_5 : decode cX7_at 5 = .ok (.imul, 1) := by decide +kernel
theorem dX7_at_6 : decode cX7_at 6 = .ok (.iadd, 1) := by decide +kernel
theorem dX7_at_7 : decode cX7_at 7 = .ok (.iload_n 1, 1) := by decide +kernel
theorem dX7_at_8 : decode cX7_at 8 = .ok (.iadd, 1) := by decide +kernel
theorem dX7_at_9 : decode cX7_at 9 = .ok (.ireturn, 1) := by decide +kernel
theorem dX7_its_0 : decode cX7_its 0 = .ok (.aload_n 0, 1) := by decide +kernel
theorem dX7_its_1 : decode cX7_its 1 = .ok (.getfield 7, 3) := by decide +kernel
theorem dX7_its_4 : decode cX7_its 4 = .ok (.iload_n 1, 1) := by decide +kernel
theorem dX7_its_5 : decode cX7_its 5 = .ok (.iload_n 2, 1) := by decide +kernel
theorem dX7_its_6 : decode cX7_its 6 = .ok (.invokestatic 73, 3) := by decide +kernel
theorem dX7_its_9 : decode cX7_its 9 = .ok (.iaload, 1) := by decide +kernel
theorem dX7_its_10 : decode cX7_its 10 = .ok (.ireturn, 1) := by decide +kernel
theorem dX7_newChimney_0 : decode cX7_newChimney 0 = .ok (.aload_n 0, 1) := by decide +kernel
theorem dX7_newChimney_1 : decode cX7_newChimney 1 = .ok (.getfield 7, 3) := by decide +kernel
theorem dX7_newChimney_4 : decode cX7_newChimney 4 = .ok (.iconst 1, 1) := by decide +kernel
theorem dX7_newChimney_5 : decode cX7_newChimney 5 = .ok (.iaload, 1) := by decide +kernel
theorem dX7_newChimney_6 : decode cX7_newChimney 6 = .ok (.istore 4, 2) := by decide +kernel
theorem dX7_newChimney_8 : decode cX7_newChimney 8 = .ok (.aload_n 0, 1) := by decide +kernel
theorem dX7_newChimney_9 : decode cX7_newChimney 9 = .ok (.getfield 7, 3) := by decide +kernel
theorem dX7_newChimney_12 : decode cX7_newChimney 12 = .ok (.iload 4, 2) := by decide +kernel
theorem dX7_newChimney_14 : decode cX7_newChimney 14 = .ok (.iconst 0, 1) := by decide +kernel
theorem dX7_newChimney_15 : decode cX7_newChimney 15 = .ok (.invokestatic 73, 3) := by decide +kernel
theorem dX7_newChimney_18 : decode cX7_newChimney 18 = .ok (.iload_n 1, 1) := by decide +kernel
theorem dX7_newChimney_19 : decode cX7_newChimney 19 = .ok (.iastore, 1) := by decide +kernel
theorem dX7_newChimney_20 : decode cX7_newChimney 20 = .ok (.aload_n 0, 1) := by decide +kernel
theorem dX7_newChimney_21 : decode cX7_newChimney 21 = .ok (.getfield 7, 3) := by decide +kernel
theorem dX7_newChimney_24 : decode cX7_newChimney 24 = .ok (.iload 4, 2) := by decide +kernel
theorem dX7_newChimney_26 : decode cX7_newChimney 26 = .ok (.iconst 1, 1) := by decide +kernel
theorem dX7_newChimney_27 : decode cX7_newChimney 27 = .ok (.invokestatic 73, 3) := by decide +kernel
theorem dX7_newChimney_30 : decode cX7_newChimney 30 = .ok (.iload_n 2, 1) := by decide +kernel
theorem dX7_newChimney_31 : decode cX7_newChimney 31 = .ok (.iastore, 1) := by decide +kernel
theorem dX7_newChimney_32 : decode cX7_newChimney 32 = .ok (.aload_n 0, 1) := by decide +kernel
theorem dX7_newChimney_33 : decode cX7_newChimney 33 = .ok (.getfield 7, 3) := by decide +kernel
theorem dX7_newChimney_36 : decode cX7_newChimney 36 = .ok (.iload 4, 2) := by decide +kernel
theorem dX7_newChimney_38 : decode cX7_newChimney 38 = .ok (.iconst 2, 1) := by decide +kernel
theorem dX7_newChimney_39 : decode cX7_newChimney 39 = .ok (.invokestatic 73, 3) := by decide +kernel
theorem dX7_newChimney_42 : decode cX7_newChimney 42 = .ok (.iload_n 3, 1) := by decide +kernel
theorem dX7_newChimney_43 : decode cX7_newChimney 43 = .ok (.iastore, 1) := by decide +kernel
theorem dX7_newChimney_44 : decode cX7_newChimney 44 = .ok (.aload_n 0, 1) := by decide +kernel
theorem dX7_newChimney_45 : decode cX7_newChimney 45 = .ok (.getfield 7, 3) := by decide +kernel
theorem dX7_newChimney_48 : decode cX7_newChimney 48 = .ok (.iload 4, 2) := by decide +kernel
theorem dX7_newChimney_50 : decode cX7_newChimney 50 = .ok (.iconst 3, 1) := by decide +kernel
theorem dX7_newChimney_51 : decode cX7_newChimney 51 = .ok (.invokestatic 73, 3) := by decide +kernel
theorem dX7_newChimney_54 : decode cX7_newChimney 54 = .ok (.iconst 1, 1) := by decide +kernel
theorem dX7_newChimney_55 : decode cX7_newChimney 55 = .ok (.iastore, 1) := by decide +kernel
theorem dX7_newChimney_56 : decode cX7_newChimney 56 = .ok (.aload_n 0, 1) := by decide +kernel
theorem dX7_newChimney_57 : decode cX7_newChimney 57 = .ok (.getfield 7, 3) := by decide +kernel
theorem dX7_newChimney_60 : decode cX7_newChimney 60 = .ok (.iload 4, 2) := by decide +kernel
theorem dX7_newChimney_62 : decode cX7_newChimney 62 = .ok (.iconst 4, 1) := by decide +kernel
theorem dX7_newChimney_63 : decode cX7_newChimney 63 = .ok (.invokestatic 73, 3) := by decide +kernel
theorem dX7_newChimney_66 : decode cX7_newChimney 66 = .ok (.bipush 20, 2) := by decide +kernel
theorem dX7_newChimney_68 : decode cX7_newChimney 68 = .ok (.iastore, 1) := by decide +kernel
theorem dX7_newChimney_69 : decode cX7_newChimney 69 = .ok (.aload_n 0, 1) := by decide +kernel
theorem dX7_newChimney_70 : decode cX7_newChimney 70 = .ok (.getfield 7, 3) := by decide +kernel
theorem dX7_newChimney_73 : decode cX7_newChimney 73 = .ok (.iload 4, 2) := by decide +kernel
theorem dX7_newChimney_75 : decode cX7_newChimney 75 = .ok (.iconst 5, 1) := by decide +kernel
theorem dX7_newChimney_76 : decode cX7_newChimney 76 = .ok (.invokestatic 73, 3) := by decide +kernel
theorem dX7_newChimney_79 : decode cX7_newChimney 79 = .ok (.iconst 0, 1) := by decide +kernel
theorem dX7_newChimney_80 : decode cX7_newChimney 80 = .ok (.iastore, 1) := by decide +kernel
theorem dX7_newChimney_81 : decode cX7_newChimney 81 = .ok (.aload_n 0, 1) := by decide +kernel
theorem dX7_newChimney_82 : decode cX7_newChimney 82 = .ok (.getfield 7, 3) := by decide +kernel
theorem dX7_newChimney_85 : decode cX7_newChimney 85 = .ok (.iload 4, 2) := by decide +kernel
theorem dX7_newChimney_87 : decode cX7_newChimney 87 = .ok (.bipush 6, 2) := by decide +kernel
theorem dX7_newChimney_89 : decode cX7_newChimney 89 = .ok (.invokestatic 73, 3) := by decide +kernel
theorem dX7_newChimney_92 : decode cX7_newChimney 92 = .ok (.bipush 24, 2) := by decide +kernel
theorem dX7_newChimney_94 : decode cX7_newChimney 94 = .ok (.iastore, 1) := by decide +kernel
theorem dX7_newChimney_95 : decode cX7_newChimney 95 = .ok (.aload_n 0, 1) := by decide +kernel
theorem dX7_newChimney_96 : decode cX7_newChimney 96 = .ok (.getfield 7, 3) := by decide +kernel
theorem dX7_newChimney_99 : decode cX7_newChimney 99 = .ok (.iconst 1, 1) := by decide +kernel
theorem dX7_newChimney_100 : decode cX7_newChimney 100 = .ok (.dup2, 1) := by decide +kernel
theorem dX7_newChimney_101 : decode cX7_newChimney 101 = .ok (.iaload, 1) := by decide +kernel
theorem dX7_newChimney_102 : decode cX7_newChimney 102 = .ok (.iconst 1, 1) := by decide +kernel
theorem dX7_newChimney_103 : decode cX7_newChimney 103 = .ok (.iadd, 1) := by decide +kernel
theorem dX7_newChimney_104 : decode cX7_newChimney 104 = .ok (.iastore, 1) := by decide +kernel
theorem dX7_newChimney_105 : decode cX7_newChimney 105 = .ok (.iload 4, 2) := by decide +kernel
theorem dX7_newChimney_107 : decode cX7_newChimney 107 = .ok (.ireturn, 1) := by decide +kernel
theorem dX7_mostOf_0 : decode cX7_mostOf 0 = .ok (.iload_n 0, 1) := by decide +kernel
theorem dX7_mostOf_1 : decode cX7_mostOf 1 = .ok (.tableswitch 56 0 5 #[39, 42, 44, 47, 50, 53], 39) := by decide +kernel
theorem dX7_mostOf_40 : decode cX7_mostOf 40 = .ok (.bipush 6, 2) := by decide +kernel
theorem dX7_mostOf_42 : decode cX7_mostOf 42 = .ok (.ireturn, 1) := by decide +kernel
theorem dX7_mostOf_43 : decode cX7_mostOf 43 = .ok (.iconst 5, 1) := by decide +kernel
theorem dX7_mostOf_44 : decode cX7_mostOf 44 = .ok (.ireturn, 1) := by decide +kernel
theorem dX7_mostOf_45 : decode cX7_mostOf 45 = .ok (.bipush 35, 2) := by decide +kernel
theorem dX7_mostOf_47 : decode cX7_mostOf 47 = .ok (.ireturn, 1) := by decide +kernel
theorem dX7_mostOf_48 : decode cX7_mostOf 48 = .ok (.bipush 9, 2) := by decide +kernel
theorem dX7_mostOf_50 : decode cX7_mostOf 50 = .ok (.ireturn, 1) := by decide +kernel
theorem dX7_mostOf_51 : decode cX7_mostOf 51 = .ok (.bipush 99, 2) := by decide +kernel
theorem dX7_mostOf_53 : decode cX7_mostOf 53 = .ok (.ireturn, 1) := by decide +kernel
theorem dX7_mostOf_54 : decode cX7_mostOf 54 = .ok (.bipush 23, 2) := by decide +kernel
theorem dX7_mostOf_56 : decode cX7_mostOf 56 = .ok (.ireturn, 1) := by decide +kernel
theorem dX7_mostOf_57 : decode cX7_mostOf 57 = .ok (.bipush 24, 2) := by decide +kernel
theorem dX7_mostOf_59 : decode cX7_mostOf 59 = .ok (.ireturn, 1) := by decide +kernel
theorem dX7_chimney_0 : decode cX7_chimney 0 = .ok (.iload_n 1, 1) := by decide +kernel
theorem dX7_chimney_1 : decode cX7_chimney 1 = .ok (.i2l, 1) := by decide +kernel
theorem dX7_chimney_2 : decode cX7_chimney 2 = .ok (.lconst 0, 1) := by decide +kernel
theorem dX7_chimney_3 : decode cX7_chimney 3 = .ok (.ldc2_w 77, 3) := by decide +kernel
theorem dX7_chimney_6 : decode cX7_chimney 6 = .ok (.invokestatic 49, 3) := by decide +kernel
theorem dX7_chimney_9 : decode cX7_chimney 9 = .ok (.ifCond .eq 17, 3) := by decide +kernel
theorem dX7_chimney_12 : decode cX7_chimney 12 = .ok (.iload_n 2, 1) := by decide +kernel
theorem dX7_chimney_13 : decode cX7_chimney 13 = .ok (.invokestatic 79, 3) := by decide +kernel
theorem dX7_chimney_16 : decode cX7_chimney 16 = .ok (.ifCond .eq 10, 3) := by decide +kernel
theorem dX7_chimney_19 : decode cX7_chimney 19 = .ok (.iload_n 3, 1) := by decide +kernel
theorem dX7_chimney_20 : decode cX7_chimney 20 = .ok (.invokestatic 58, 3) := by decide +kernel
theorem dX7_chimney_23 : decode cX7_chimney 23 = .ok (.ifCond .ne 10, 3) := by decide +kernel
theorem dX7_chimney_26 : decode cX7_chimney 26 = .ok (.aload_n 0, 1) := by decide +kernel
theorem dX7_chimney_27 : decode cX7_chimney 27 = .ok (.ldc 46, 2) := by decide +kernel
theorem dX7_chimney_29 : decode cX7_chimney 29 = .ok (.invokevirtual 64, 3) := by decide +kernel
theorem dX7_chimney_32 : decode cX7_chimney 32 = .ok (.ireturn, 1) := by decide +kernel
theorem dX7_chimney_33 : decode cX7_chimney 33 = .ok (.aload_n 0, 1) := by decide +kernel
theorem dX7_chimney_34 : decode cX7_chimney 34 = .ok (.getfield 7, 3) := by decide +kernel
theorem dX7_chimney_37 : decode cX7_chimney 37 = .ok (.iconst 1, 1) := by decide +kernel
theorem dX7_chimney_38 : decode cX7_chimney 38 = .ok (.iaload, 1) := by decide +kernel
theorem dX7_chimney_39 : decode cX7_chimney 39 = .ok (.bipush 8, 2) := by decide +kernel
theorem dX7_chimney_41 : decode cX7_chimney 41 = .ok (.if_icmp .ne 12, 3) := by decide +kernel
theorem dX7_chimney_44 : decode cX7_chimney 44 = .ok (.aload_n 0, 1) := by decide +kernel
theorem dX7_chimney_45 : decode cX7_chimney 45 = .ok (.ldc 82, 2) := by decide +kernel
theorem dX7_chimney_47 : decode cX7_chimney 47 = .ok (.invokevirtual 64, 3) := by decide +kernel
theorem dX7_chimney_50 : decode cX7_chimney 50 = .ok (.goto 10, 3) := by decide +kernel
theorem dX7_chimney_53 : decode cX7_chimney 53 = .ok (.aload_n 0, 1) := by decide +kernel
theorem dX7_chimney_54 : decode cX7_chimney 54 = .ok (.iload_n 1, 1) := by decide +kernel
theorem dX7_chimney_55 : decode cX7_chimney 55 = .ok (.iload_n 2, 1) := by decide +kernel
theorem dX7_chimney_56 : decode cX7_chimney 56 = .ok (.iload_n 3, 1) := by decide +kernel
theorem dX7_chimney_57 : decode cX7_chimney 57 = .ok (.invokevirtual 83, 3) := by decide +kernel
theorem dX7_chimney_60 : decode cX7_chimney 60 = .ok (.ireturn, 1) := by decide +kernel
theorem dX7_burnsAt_0 : decode cX7_burnsAt 0 = .ok (.aload_n 0, 1) := by decide +kernel
theorem dX7_burnsAt_1 : decode cX7_burnsAt 1 = .ok (.iload_n 1, 1) := by decide +kernel
theorem dX7_burnsAt_2 : decode cX7_burnsAt 2 = .ok (.iconst 4, 1) := by decide +kernel
theorem dX7_burnsAt_3 : decode cX7_burnsAt 3 = .ok (.invokevirtual 87, 3) := by decide +kernel
theorem dX7_burnsAt_6 : decode cX7_burnsAt 6 = .ok (.istore_n 3, 1) := by decide +kernel
theorem dX7_burnsAt_7 : decode cX7_burnsAt 7 = .ok (.aload_n 0, 1) := by decide +kernel
theorem dX7_burnsAt_8 : decode cX7_burnsAt 8 = .ok (.iload_n 1, 1) := by decide +kernel
theorem dX7_burnsAt_9 : decode cX7_burnsAt 9 = .ok (.iconst 0, 1) := by decide +kernel
theorem dX7_burnsAt_10 : decode cX7_burnsAt 10 = .ok (.invokevirtual 87, 3) := by decide +kernel
theorem dX7_burnsAt_13 : decode cX7_burnsAt 13 = .ok (.tableswitch 53 3 6 #[31, 35, 53, 47], 31) := by decide +kernel
theorem dX7_burnsAt_44 : decode cX7_burnsAt 44 = .ok (.iconst 2, 1) := by decide +kernel
theorem dX7_burnsAt_45 : decode cX7_burnsAt 45 = .ok (.iload_n 3, 1) := by decide +kernel
theorem dX7_burnsAt_46 : decode cX7_burnsAt 46 = .ok (.imul, 1) := by decide +kernel
theorem dX7_burnsAt_47 : decode cX7_burnsAt 47 = .ok (.ireturn, 1) := by decide +kernel
theorem dX7_burnsAt_48 : decode cX7_burnsAt 48 = .ok (.iload_n 2, 1) := by decide +kernel
theorem dX7_burnsAt_49 : decode cX7_burnsAt 49 = .ok (.bipush 12, 2) := by decide +kernel
theorem dX7_burnsAt_51 : decode cX7_burnsAt 51 = .ok (.if_icmp .ge 7, 3) := by decide +kernel
theorem dX7_burnsAt_54 : decode cX7_burnsAt 54 = .ok (.iload_n 3, 1) := by decide +kernel
theorem dX7_burnsAt_55 : decode cX7_burnsAt 55 = .ok (.goto 4, 3) := by decide +kernel
theorem dX7_burnsAt_58 : decode cX7_burnsAt 58 = .ok (.iconst 0, 1) := by decide +kernel
theorem dX7_burnsAt_59 : decode cX7_burnsAt 59 = .ok (.ireturn, 1) := by decide +kernel
theorem dX7_burnsAt_60 : decode cX7_burnsAt 60 = .ok (.iconst 2, 1) := by decide +kernel
theorem dX7_burnsAt_61 : decode cX7_burnsAt 61 = .ok (.iload_n 3, 1) := by decide +kernel
theorem dX7_burnsAt_62 : decode cX7_burnsAt 62 = .ok (.imul, 1) := by decide +kernel
theorem dX7_burnsAt_63 : decode cX7_burnsAt 63 = .ok (.iconst 5, 1) := by decide +kernel
theorem dX7_burnsAt_64 : decode cX7_burnsAt 64 = .ok (.iadd, 1) := by decide +kernel
theorem dX7_burnsAt_65 : decode cX7_burnsAt 65 = .ok (.ireturn, 1) := by decide +kernel
theorem dX7_burnsAt_66 : decode cX7_burnsAt 66 = .ok (.iload_n 3, 1) := by decide +kernel
theorem dX7_burnsAt_67 : decode cX7_burnsAt 67 = .ok (.ireturn, 1) := by decide +kernel
theorem dX7_worth_0 : decode cX7_worth 0 = .ok (.aload_n 0, 1) := by decide +kernel
theorem dX7_worth_1 : decode cX7_worth 1 = .ok (.iload_n 1, 1) := by decide +kernel
theorem dX7_worth_2 : decode cX7_worth 2 = .ok (.iconst 0, 1) := by decide +kernel
theorem dX7_worth_3 : decode cX7_worth 3 = .ok (.invokevirtual 87, 3) := by decide +kernel
theorem dX7_worth_6 : decode cX7_worth 6 = .ok (.tableswitch 50 0 5 #[38, 40, 42, 50, 45, 47], 38) := by decide +kernel
theorem dX7_worth_44 : decode cX7_worth 44 = .ok (.iconst 0, 1) := by decide +kernel
theorem dX7_worth_45 : decode cX7_worth 45 = .ok (.ireturn, 1) := by decide +kernel
theorem dX7_worth_46 : decode cX7_worth 46 = .ok (.iconst 2, 1) := by decide +kernel
theorem dX7_worth_47 : decode cX7_worth 47 = .ok (.ireturn, 1) := by decide +kernel
theorem dX7_worth_48 : decode cX7_worth 48 = .ok (.bipush (-3), 2) := by decide +kernel
theorem dX7_worth_50 : decode cX7_worth 50 = .ok (.ireturn, 1) := by decide +kernel
theorem dX7_worth_51 : decode cX7_worth 51 = .ok (.iconst 3, 1) := by decide +kernel
theorem dX7_worth_52 : decode cX7_worth 52 = .ok (.ireturn, 1) := by decide +kernel
theorem dX7_worth_53 : decode cX7_worth 53 = .ok (.bipush (-6), 2) := by decide +kernel
theorem dX7_worth_55 : decode cX7_worth 55 = .ok (.ireturn, 1) := by decide +kernel
theorem dX7_worth_56 : decode cX7_worth 56 = .ok (.iconst (-1), 1) := by decide +kernel
theorem dX7_worth_57 : decode cX7_worth 57 = .ok (.ireturn, 1) := by decide +kernel
theorem dX7_sooty_0 : decode cX7_sooty 0 = .ok (.aload_n 0, 1) := by decide +kernel
theorem dX7_sooty_1 : decode cX7_sooty 1 = .ok (.iload_n 1, 1) := by decide +kernel
theorem dX7_sooty_2 : decode cX7_sooty 2 = .ok (.iconst 0, 1) := by decide +kernel
theorem dX7_sooty_3 : decode cX7_sooty 3 = .ok (.invokevirtual 87, 3) := by decide +kernel
theorem dX7_sooty_6 : decode cX7_sooty 6 = .ok (.istore_n 2, 1) := by decide +kernel
theorem dX7_sooty_7 : decode cX7_sooty 7 = .ok (.iload_n 2, 1) := by decide +kernel
theorem dX7_sooty_8 : decode cX7_sooty 8 = .ok (.iconst 5, 1) := by decide +kernel
theorem dX7_sooty_9 : decode cX7_sooty 9 = .ok (.if_icmp .ne 8, 3) := by decide +kernel
theorem dX7_sooty_12 : decode cX7_sooty 12 = .ok (.bipush 50, 2) := by decide +kernel
theorem dX7_sooty_14 : decode cX7_sooty 14 = .ok (.goto 16, 3) := by decide +kernel
theorem dX7_sooty_17 : decode cX7_sooty 17 = .ok (.iload_n 2, 1) := by decide +kernel
theorem dX7_sooty_18 : decode cX7_sooty 18 = .ok (.bipush 6, 2) := by decide +kernel
theorem dX7_sooty_20 : decode cX7_sooty 20 = .ok (.if_icmp .ne 8, 3) := by decide +kernel
theorem dX7_sooty_23 : decode cX7_sooty 23 = .ok (.bipush 60, 2) := by decide +kernel
theorem dX7_sooty_25 : decode cX7_sooty 25 = .ok (.goto 5, 3) := by decide +kernel
theorem dX7_sooty_28 : decode cX7_sooty 28 = .ok (.bipush 30, 2) := by decide +kernel
theorem dX7_sooty_30 : decode cX7_sooty 30 = .ok (.iconst 3, 1) := by decide +kernel
theorem dX7_sooty_31 : decode cX7_sooty 31 = .ok (.aload_n 0, 1) := by decide +kernel
theorem dX7_sooty_32 : decode cX7_sooty 32 = .ok (.iload_n 1, 1) := by decide +kernel
theorem dX7_sooty_33 : decode cX7_sooty 33 = .ok (.iconst 3, 1) := by decide +kernel
theorem dX7_sooty_34 : decode cX7_sooty 34 = .ok (.invokevirtual 87, 3) := by decide +kernel
theorem dX7_sooty_37 : decode cX7_sooty 37 = .ok (.imul, 1) := by decide +kernel
theorem dX7_sooty_38 : decode cX7_sooty 38 = .ok (.isub, 1) := by decide +kernel
theorem dX7_sooty_39 : decode cX7_sooty 39 = .ok (.istore_n 3, 1) := by decide +kernel
theorem dX7_sooty_40 : decode cX7_sooty 40 = .ok (.iload_n 3, 1) := by decide +kernel
theorem dX7_sooty_41 : decode cX7_sooty 41 = .ok (.ifCond .ge 7, 3) := by decide +kernel
theorem dX7_sooty_44 : decode cX7_sooty 44 = .ok (.iconst 0, 1) := by decide +kernel
theorem dX7_sooty_45 : decode cX7_sooty 45 = .ok (.goto 4, 3) := by decide +kernel
theorem dX7_sooty_48 : decode cX7_sooty 48 = .ok (.iload_n 3, 1) := by decide +kernel
theorem dX7_sooty_49 : decode cX7_sooty 49 = .ok (.ireturn, 1) := by decide +kernel
theorem dX7_isLit_0 : decode cX7_isLit 0 = .ok (.iload_n 2, 1) := by decide +kernel
theorem dX7_isLit_1 : decode cX7_isLit 1 = .ok (.aload_n 0, 1) := by decide +kernel
theorem dX7_isLit_2 : decode cX7_isLit 2 = .ok (.iload_n 1, 1) := by decide +kernel
theorem dX7_isLit_3 : decode cX7_isLit 3 = .ok (.iconst 5, 1) := by decide +kernel
theorem dX7_isLit_4 : decode cX7_isLit 4 = .ok (.invokevirtual 87, 3) := by decide +kernel
theorem dX7_isLit_7 : decode cX7_isLit 7 = .ok (.isub, 1) := by decide +kernel
theorem dX7_isLit_8 : decode cX7_isLit 8 = .ok (.bipush 24, 2) := by decide +kernel
theorem dX7_isLit_10 : decode cX7_isLit 10 = .ok (.iadd, 1) := by decide +kernel
theorem dX7_isLit_11 : decode cX7_isLit 11 = .ok (.bipush 24, 2) := by decide +kernel
theorem dX7_isLit_13 : decode cX7_isLit 13 = .ok (.irem, 1) := by decide +kernel
theorem dX7_isLit_14 : decode cX7_isLit 14 = .ok (.aload_n 0, 1) := by decide +kernel
theorem dX7_isLit_15 : decode cX7_isLit 15 = .ok (.iload_n 1, 1) := by decide +kernel
theorem dX7_isLit_16 : decode cX7_isLit 16 = .ok (.bipush 6, 2) := by decide +kernel
theorem dX7_isLit_18 : decode cX7_isLit 18 = .ok (.invokevirtual 87, 3) := by decide +kernel
theorem dX7_isLit_21 : decode cX7_isLit 21 = .ok (.if_icmp .ge 7, 3) := by decide +kernel
theorem dX7_isLit_24 : decode cX7_isLit 24 = .ok (.iconst 1, 1) := by decide +kernel
theorem dX7_isLit_25 : decode cX7_isLit 25 = .ok (.goto 4, 3) := by decide +kernel
theorem dX7_isLit_28 : decode cX7_isLit 28 = .ok (.iconst 0, 1) := by decide +kernel
theorem dX7_isLit_29 : decode cX7_isLit 29 = .ok (.ireturn, 1) := by decide +kernel
theorem dX7_burns_0 : decode cX7_burns 0 = .ok (.aload_n 0, 1) := by decide +kernel
theorem dX7_burns_1 : decode cX7_burns 1 = .ok (.iload_n 1, 1) := by decide +kernel
theorem dX7_burns_2 : decode cX7_burns 2 = .ok (.iload_n 2, 1) := by decide +kernel
theorem dX7_burns_3 : decode cX7_burns 3 = .ok (.invokevirtual 90, 3) := by decide +kernel
theorem dX7_burns_6 : decode cX7_burns 6 = .ok (.ifCond .eq 12, 3) := by decide +kernel
theorem dX7_burns_9 : decode cX7_burns 9 = .ok (.aload_n 0, 1) := by decide +kernel
theorem dX7_burns_10 : decode cX7_burns 10 = .ok (.iload_n 1, 1) := by decide +kernel
theorem dX7_burns_11 : decode cX7_burns 11 = .ok (.iload_n 2, 1) := by decide +kernel
theorem dX7_burns_12 : decode cX7_burns 12 = .ok (.invokevirtual 94, 3) := by decide +kernel
theorem dX7_burns_15 : decode cX7_burns 15 = .ok (.goto 4, 3) := by decide +kernel
theorem dX7_burns_18 : decode cX7_burns 18 = .ok (.iconst 0, 1) := by decide +kernel
theorem dX7_burns_19 : decode cX7_burns 19 = .ok (.ireturn, 1) := by decide +kernel
theorem dX7_of_0 : decode cX7_of 0 = .ok (.aload_n 0, 1) := by decide +kernel
theorem dX7_of_1 : decode cX7_of 1 = .ok (.iload_n 1, 1) := by decide +kernel
theorem dX7_of_2 : decode cX7_of 2 = .ok (.invokevirtual 97, 3) := by decide +kernel
theorem dX7_of_5 : decode cX7_of 5 = .ok (.ifCond .eq 15, 3) := by decide +kernel
theorem dX7_of_8 : decode cX7_of 8 = .ok (.iload_n 2, 1) := by decide +kernel
theorem dX7_of_9 : decode cX7_of 9 = .ok (.i2l, 1) := by decide +kernel
theorem dX7_of_10 : decode cX7_of 10 = .ok (.lconst 0, 1) := by decide +kernel
theorem dX7_of_11 : decode cX7_of 11 = .ok (.ldc2_w 100, 3) := by decide +kernel
theorem dX7_of_14 : decode cX7_of 14 = .ok (.invokestatic 49, 3) := by decide +kernel
theorem dX7_of_17 : decode cX7_of 17 = .ok (.ifCond .ne 10, 3) := by decide +kernel
theorem dX7_of_20 : decode cX7_of 20 = .ok (.aload_n 0, 1) := by decide +kernel
theorem dX7_of_21 : decode cX7_of 21 = .ok (.ldc 46, 2) := by decide +kernel
theorem dX7_of_23 : decode cX7_of 23 = .ok (.invokevirtual 64, 3) := by decide +kernel
theorem dX7_of_26 : decode cX7_of 26 = .ok (.ireturn, 1) := by decide +kernel
theorem dX7_of_27 : decode cX7_of 27 = .ok (.iload_n 2, 1) := by decide +kernel
theorem dX7_of_28 : decode cX7_of 28 = .ok (.bipush 7, 2) := by decide +kernel
theorem dX7_of_30 : decode cX7_of 30 = .ok (.if_icmp .ge 12, 3) := by decide +kernel
theorem dX7_of_33 : decode cX7_of 33 = .ok (.aload_n 0, 1) := by decide +kernel
theorem dX7_of_34 : decode cX7_of 34 = .ok (.iload_n 1, 1) := by decide +kernel
theorem dX7_of_35 : decode cX7_of 35 = .ok (.iload_n 2, 1) := by decide +kernel
theorem dX7_of_36 : decode cX7_of 36 = .ok (.invokevirtual 87, 3) := by decide +kernel
theorem dX7_of_39 : decode cX7_of 39 = .ok (.goto 45, 3) := by decide +kernel
theorem dX7_of_42 : decode cX7_of 42 = .ok (.iload_n 2, 1) := by decide +kernel
theorem dX7_of_43 : decode cX7_of 43 = .ok (.bipush 7, 2) := by decide +kernel
theorem dX7_of_45 : decode cX7_of 45 = .ok (.if_icmp .ne 11, 3) := by decide +kernel
theorem dX7_of_48 : decode cX7_of 48 = .ok (.aload_n 0, 1) := by decide +kernel
theorem dX7_of_49 : decode cX7_of 49 = .ok (.iload_n 1, 1) := by decide +kernel
theorem dX7_of_50 : decode cX7_of 50 = .ok (.invokevirtual 102, 3) := by decide +kernel
theorem dX7_of_53 : decode cX7_of 53 = .ok (.goto 31, 3) := by decide +kernel
theorem dX7_of_56 : decode cX7_of 56 = .ok (.iload_n 2, 1) := by decide +kernel
theorem dX7_of_57 : decode cX7_of 57 = .ok (.bipush 8, 2) := by decide +kernel
theorem dX7_of_59 : decode cX7_of 59 = .ok (.if_icmp .ne 11, 3) := by decide +kernel
theorem dX7_of_62 : decode cX7_of 62 = .ok (.aload_n 0, 1) := by decide +kernel
theorem dX7_of_63 : decode cX7_of 63 = .ok (.iload_n 1, 1) := by decide +kernel
theorem dX7_of_64 : decode cX7_of 64 = .ok (.invokevirtual 105, 3) := by decide +kernel
theorem dX7_of_67 : decode cX7_of 67 = .ok (.goto 17, 3) := by decide +kernel
theorem dX7_of_70 : decode cX7_of 70 = .ok (.aload_n 0, 1) := by decide +kernel
theorem dX7_of_71 : decode cX7_of 71 = .ok (.iload_n 1, 1) := by decide +kernel
theorem dX7_of_72 : decode cX7_of 72 = .ok (.aload_n 0, 1) := by decide +kernel
theorem dX7_of_73 : decode cX7_of 73 = .ok (.getfield 7, 3) := by decide +kernel
theorem dX7_of_76 : decode cX7_of 76 = .ok (.iconst 0, 1) := by decide +kernel
theorem dX7_of_77 : decode cX7_of 77 = .ok (.iaload, 1) := by decide +kernel
theorem dX7_of_78 : decode cX7_of 78 = .ok (.bipush 24, 2) := by decide +kernel
theorem dX7_of_80 : decode cX7_of 80 = .ok (.irem, 1) := by decide +kernel
theorem dX7_of_81 : decode cX7_of 81 = .ok (.invokevirtual 108, 3) := by decide +kernel
theorem dX7_of_84 : decode cX7_of 84 = .ok (.ireturn, 1) := by decide +kernel
theorem dX7_change_0 : decode cX7_change 0 = .ok (.aload_n 0, 1) := by decide +kernel
theorem dX7_change_1 : decode cX7_change 1 = .ok (.iload_n 1, 1) := by decide +kernel
theorem dX7_change_2 : decode cX7_change 2 = .ok (.invokevirtual 97, 3) := by decide +kernel
theorem dX7_change_5 : decode cX7_change 5 = .ok (.ifCond .eq 29, 3) := by decide +kernel
theorem dX7_change_8 : decode cX7_change 8 = .ok (.iload_n 2, 1) := by decide +kernel
theorem dX7_change_9 : decode cX7_change 9 = .ok (.i2l, 1) := by decide +kernel
theorem dX7_change_10 : decode cX7_change 10 = .ok (.lconst 0, 1) := by decide +kernel
theorem dX7_change_11 : decode cX7_change 11 = .ok (.ldc2_w 77, 3) := by decide +kernel
theorem dX7_change_14 : decode cX7_change 14 = .ok (.invokestatic 49, 3) := by decide +kernel
theorem dX7_change_17 : decode cX7_change 17 = .ok (.ifCond .eq 17, 3) := by decide +kernel
theorem dX7_change_20 : decode cX7_change 20 = .ok (.iload_n 3, 1) := by decide +kernel
theorem dX7_change_21 : decode cX7_change 21 = .ok (.i2l, 1) := by decide +kernel
theorem dX7_change_22 : decode cX7_change 22 = .ok (.lconst 0, 1) := by decide +kernel
theorem dX7_change_23 : decode cX7_change 23 = .ok (.iload_n 2, 1) := by decide +kernel
theorem dX7_change_24 : decode cX7_change 24 = .ok (.invokestatic 111, 3) := by decide +kernel
theorem dX7_change_27 : decode cX7_change 27 = .ok (.i2l, 1) := by decide +kernel
theorem dX7_change_28 : decode cX7_change 28 = .ok (.invokestatic 49, 3) := by decide +kernel
theorem dX7_change_31 : decode cX7_change 31 = .ok (.ifCond .ne 10, 3) := by decide +kernel
theorem dX7_change_34 : decode cX7_change 34 = .ok (.aload_n 0, 1) := by decide +kernel
theorem dX7_change_35 : decode cX7_change 35 = .ok (.ldc 46, 2) := by decide +kernel
theorem dX7_change_37 : decode cX7_change 37 = .ok (.invokevirtual 64, 3) := by decide +kernel
theorem dX7_change_40 : decode cX7_change 40 = .ok (.ireturn, 1) := by decide +kernel
theorem dX7_change_41 : decode cX7_change 41 = .ok (.aload_n 0, 1) := by decide +kernel
theorem dX7_change_42 : decode cX7_change 42 = .ok (.iload_n 1, 1) := by decide +kernel
theorem dX7_change_43 : decode cX7_change 43 = .ok (.iload_n 2, 1) := by decide +kernel
theorem dX7_change_44 : decode cX7_change 44 = .ok (.invokevirtual 87, 3) := by decide +kernel
theorem dX7_change_47 : decode cX7_change 47 = .ok (.istore 4, 2) := by decide +kernel
theorem dX7_change_49 : decode cX7_change 49 = .ok (.aload_n 0, 1) := by decide +kernel
theorem dX7_change_50 : decode cX7_change 50 = .ok (.getfield 7, 3) := by decide +kernel
theorem dX7_change_53 : decode cX7_change 53 = .ok (.iload_n 1, 1) := by decide +kernel
theorem dX7_change_54 : decode cX7_change 54 = .ok (.iload_n 2, 1) := by decide +kernel
theorem dX7_change_55 : decode cX7_change 55 = .ok (.invokestatic 73, 3) := by decide +kernel
theorem dX7_change_58 : decode cX7_change 58 = .ok (.iload_n 3, 1) := by decide +kernel
theorem dX7_change_59 : decode cX7_change 59 = .ok (.iastore, 1) := by decide +kernel
theorem dX7_change_60 : decode cX7_change 60 = .ok (.iload 4, 2) := by decide +kernel
theorem dX7_change_62 : decode cX7_change 62 = .ok (.ireturn, 1) := by decide +kernel
theorem dX7_book_0 : decode cX7_book 0 = .ok (.iload_n 1, 1) := by decide +kernel
theorem dX7_book_1 : decode cX7_book 1 = .ok (.invokestatic 79, 3) := by decide +kernel
theorem dX7_book_4 : decode cX7_book 4 = .ok (.ifCond .eq 15, 3) := by decide +kernel
theorem dX7_book_7 : decode cX7_book 7 = .ok (.aload_n 0, 1) := by decide +kernel
theorem dX7_book_8 : decode cX7_book 8 = .ok (.getfield 7, 3) := by decide +kernel
theorem dX7_book_11 : decode cX7_book 11 = .ok (.bipush 119, 2) := by decide +kernel
theorem dX7_book_13 : decode cX7_book 13 = .ok (.iload_n 1, 1) := by decide +kernel
theorem dX7_book_14 : decode cX7_book 14 = .ok (.iadd, 1) := by decide +kernel
theorem dX7_book_15 : decode cX7_book 15 = .ok (.iaload, 1) := by decide +kernel
theorem dX7_book_16 : decode cX7_book 16 = .ok (.goto 9, 3) := by decide +kernel
theorem dX7_book_19 : decode cX7_book 19 = .ok (.aload_n 0, 1) := by decide +kernel
theorem dX7_book_20 : decode cX7_book 20 = .ok (.ldc 46, 2) := by decide +kernel
theorem dX7_book_22 : decode cX7_book 22 = .ok (.invokevirtual 64, 3) := by decide +kernel
theorem dX7_book_25 : decode cX7_book 25 = .ok (.ireturn, 1) := by decide +kernel
theorem dX7_strike_0 : decode cX7_strike 0 = .ok (.iconst 0, 1) := by decide +kernel
theorem dX7_strike_1 : decode cX7_strike 1 = .ok (.istore_n 1, 1) := by decide +kernel
theorem dX7_strike_2 : decode cX7_strike 2 = .ok (.iconst 0, 1) := by decide +kernel
theorem dX7_strike_3 : decode cX7_strike 3 = .ok (.istore_n 2, 1) := by decide +kernel
theorem dX7_strike_4 : decode cX7_strike 4 = .ok (.iload_n 2, 1) := by decide +kernel
theorem dX7_strike_5 : decode cX7_strike 5 = .ok (.bipush 6, 2) := by decide +kernel
theorem dX7_strike_7 : decode cX7_strike 7 = .ok (.if_icmp .ge 47, 3) := by decide +kernel
theorem dX7_strike_10 : decode cX7_strike 10 = .ok (.iload_n 1, 1) := by decide +kernel
theorem dX7_strike_11 : decode cX7_strike 11 = .ok (.aload_n 0, 1) := by decide +kernel
theorem dX7_strike_12 : decode cX7_strike 12 = .ok (.getfield 7, 3) := by decide +kernel
theorem dX7_strike_15 : decode cX7_strike 15 = .ok (.bipush 119, 2) := by decide +kernel
theorem dX7_strike_17 : decode cX7_strike 17 = .ok (.iload_n 2, 1) := by decide +kernel
theorem dX7_strike_18 : decode cX7_strike 18 = .ok (.iadd, 1) := by decide +kernel
theorem dX7_strike_19 : decode cX7_strike 19 = .ok (.iaload, 1) := by decide +kernel
theorem dX7_strike_20 : decode cX7_strike 20 = .ok (.ifCond .le 15, 3) := by decide +kernel
theorem dX7_strike_23 : decode cX7_strike 23 = .ok (.aload_n 0, 1) := by decide +kernel
theorem dX7_strike_24 : decode cX7_strike 24 = .ok (.getfield 7, 3) := by decide +kernel
theorem dX7_strike_27 : decode cX7_strike 27 = .ok (.bipush 119, 2) := by decide +kernel
theorem dX7_strike_29 : decode cX7_strike 29 = .ok (.iload_n 2, 1) := by decide +kernel
theorem dX7_strike_30 : decode cX7_strike 30 = .ok (.iadd, 1) := by decide +kernel
theorem dX7_strike_31 : decode cX7_strike 31 = .ok (.iaload, 1) := by decide +kernel
theorem dX7_strike_32 : decode cX7_strike 32 = .ok (.goto 4, 3) := by decide +kernel
theorem dX7_strike_35 : decode cX7_strike 35 = .ok (.iconst 0, 1) := by decide +kernel
theorem dX7_strike_36 : decode cX7_strike 36 = .ok (.iadd, 1) := by decide +kernel
theorem dX7_strike_37 : decode cX7_strike 37 = .ok (.istore_n 1, 1) := by decide +kernel
theorem dX7_strike_38 : decode cX7_strike 38 = .ok (.aload_n 0, 1) := by decide +kernel
theorem dX7_strike_39 : decode cX7_strike 39 = .ok (.getfield 7, 3) := by decide +kernel
theorem dX7_strike_42 : decode cX7_strike 42 = .ok (.bipush 119, 2) := by decide +kernel
theorem dX7_strike_44 : decode cX7_strike 44 = .ok (.iload_n 2, 1) := by decide +kernel
theorem dX7_strike_45 : decode cX7_strike 45 = .ok (.iadd, 1) := by decide +kernel
theorem dX7_strike_46 : decode cX7_strike 46 = .ok (.iconst 0, 1) := by decide +kernel
theorem dX7_strike_47 : decode cX7_strike 47 = .ok (.iastore, 1) := by decide +kernel
theorem dX7_strike_48 : decode cX7_strike 48 = .ok (.iinc 2 1, 3) := by decide +kernel
theorem dX7_strike_51 : decode cX7_strike 51 = .ok (.goto (-47), 3) := by decide +kernel
theorem dX7_strike_54 : decode cX7_strike 54 = .ok (.iload_n 1, 1) := by decide +kernel
theorem dX7_strike_55 : decode cX7_strike 55 = .ok (.ireturn, 1) := by decide +kernel
theorem dX7_sums_0 : decode cX7_sums 0 = .ok (.iconst 0, 1) := by decide +kernel
theorem dX7_sums_1 : decode cX7_sums 1 = .ok (.istore 4, 2) := by decide +kernel
theorem dX7_sums_3 : decode cX7_sums 3 = .ok (.iconst 0, 1) := by decide +kernel
theorem dX7_sums_4 : decode cX7_sums 4 = .ok (.istore 5, 2) := by decide +kernel
theorem dX7_sums_6 : decode cX7_sums 6 = .ok (.iload 5, 2) := by decide +kernel
theorem dX7_sums_8 : decode cX7_sums 8 = .ok (.aload_n 0, 1) := by decide +kernel
theorem dX7_sums_9 : decode cX7_sums 9 = .ok (.getfield 7, 3) := by decide +kernel
theorem dX7_sums_12 : decode cX7_sums 12 = .ok (.iconst 1, 1) := by decide +kernel
theorem dX7_sums_13 : decode cX7_sums 13 = .ok (.iaload, 1) := by decide +kernel
theorem dX7_sums_14 : decode cX7_sums 14 = .ok (.if_icmp .ge 69, 3) := by decide +kernel
theorem dX7_sums_17 : decode cX7_sums 17 = .ok (.iconst 0, 1) := by decide +kernel
theorem dX7_sums_18 : decode cX7_sums 18 = .ok (.istore 6, 2) := by decide +kernel
theorem dX7_sums_20 : decode cX7_sums 20 = .ok (.iload 6, 2) := by decide +kernel
theorem dX7_sums_22 : decode cX7_sums 22 = .ok (.bipush 36, 2) := by decide +kernel
theorem dX7_sums_24 : decode cX7_sums 24 = .ok (.if_icmp .ge 53, 3) := by decide +kernel
theorem dX7_sums_27 : decode cX7_sums 27 = .ok (.iload 4, 2) := by decide +kernel
theorem dX7_sums_29 : decode cX7_sums 29 = .ok (.iload_n 2, 1) := by decide +kernel
theorem dX7_sums_30 : decode cX7_sums 30 = .ok (.ifCond .lt 9, 3) := by decide +kernel
theorem dX7_sums_33 : decode cX7_sums 33 = .ok (.iload_n 2, 1) := by decide +kernel
theorem dX7_sums_34 : decode cX7_sums 34 = .ok (.iload 5, 2) := by decide +kernel
theorem dX7_sums_36 : decode cX7_sums 36 = .ok (.if_icmp .ne 31, 3) := by decide +kernel
theorem dX7_sums_39 : decode cX7_sums 39 = .ok (.iload_n 3, 1) := by decide +kernel
theorem dX7_sums_40 : decode cX7_sums 40 = .ok (.ifCond .lt 9, 3) := by decide +kernel
theorem dX7_sums_43 : decode cX7_sums 43 = .ok (.iload_n 3, 1) := by decide +kernel
theorem dX7_sums_44 : decode cX7_sums 44 = .ok (.iload 6, 2) := by decide +kernel
theorem dX7_sums_46 : decode cX7_sums 46 = .ok (.if_icmp .ne 21, 3) := by decide +kernel
theorem dX7_sums_49 : decode cX7_sums 49 = .ok (.aload_n 0, 1) := by decide +kernel
theorem dX7_sums_50 : decode cX7_sums 50 = .ok (.getfield 7, 3) := by decide +kernel
theorem dX7_sums_53 : decode cX7_sums 53 = .ok (.iload_n 1, 1) := by decide +kernel
theorem dX7_sums_54 : decode cX7_sums 54 = .ok (.bipush 36, 2) := by decide +kernel
theorem dX7_sums_56 : decode cX7_sums 56 = .ok (.iload 5, 2) := by decide +kernel
theorem dX7_sums_58 : decode cX7_sums 58 = .ok (.imul, 1) := by decide +kernel
theorem dX7_sums_59 : decode cX7_sums 59 = .ok (.iadd, 1) := by decide +kernel
theorem dX7_sums_60 : decode cX7_sums 60 = .ok (.iload 6, 2) := by decide +kernel
theorem dX7_sums_62 : decode cX7_sums 62 = .ok (.iadd, 1) := by decide +kernel
theorem dX7_sums_63 : decode cX7_sums 63 = .ok (.iaload, 1) := by decide +kernel
theorem dX7_sums_64 : decode cX7_sums 64 = .ok (.goto 4, 3) := by decide +kernel
theorem dX7_sums_67 : decode cX7_sums 67 = .ok (.iconst 0, 1) := by decide +kernel
theorem dX7_sums_68 : decode cX7_sums 68 = .ok (.iadd, 1) := by decide +kernel
theorem dX7_sums_69 : decode cX7_sums 69 = .ok (.istore 4, 2) := by decide +kernel
theorem dX7_sums_71 : decode cX7_sums 71 = .ok (.iinc 6 1, 3) := by decide +kernel
theorem dX7_sums_74 : decode cX7_sums 74 = .ok (.goto (-54), 3) := by decide +kernel
theorem dX7_sums_77 : decode cX7_sums 77 = .ok (.iinc 5 1, 3) := by decide +kernel
theorem dX7_sums_80 : decode cX7_sums 80 = .ok (.goto (-74), 3) := by decide +kernel
theorem dX7_sums_83 : decode cX7_sums 83 = .ok (.iload 4, 2) := by decide +kernel
theorem dX7_sums_85 : decode cX7_sums 85 = .ok (.ireturn, 1) := by decide +kernel
theorem dX7_air_0 : decode cX7_air 0 = .ok (.iload_n 1, 1) := by decide +kernel
theorem dX7_air_1 : decode cX7_air 1 = .ok (.i2l, 1) := by decide +kernel
theorem dX7_air_2 : decode cX7_air 2 = .ok (.ldc2_w 62, 3) := by decide +kernel
theorem dX7_air_5 : decode cX7_air 5 = .ok (.aload_n 0, 1) := by decide +kernel
theorem dX7_air_6 : decode cX7_air 6 = .ok (.getfield 7, 3) := by decide +kernel
theorem dX7_air_9 : decode cX7_air 9 = .ok (.iconst 1, 1) := by decide +kernel
theorem dX7_air_10 : decode cX7_air 10 = .ok (.iaload, 1) := by decide +kernel
theorem dX7_air_11 : decode cX7_air 11 = .ok (.iconst 1, 1) := by decide +kernel
theorem dX7_air_12 : decode cX7_air 12 = .ok (.isub, 1) := by decide +kernel
theorem dX7_air_13 : decode cX7_air 13 = .ok (.i2l, 1) := by decide +kernel
theorem dX7_air_14 : decode cX7_air 14 = .ok (.invokestatic 49, 3) := by decide +kernel
theorem dX7_air_17 : decode cX7_air 17 = .ok (.ifCond .eq 17, 3) := by decide +kernel
theorem dX7_air_20 : decode cX7_air 20 = .ok (.iload_n 2, 1) := by decide +kernel
theorem dX7_air_21 : decode cX7_air 21 = .ok (.i2l, 1) := by decide +kernel
theorem dX7_air_22 : decode cX7_air 22 = .ok (.ldc2_w 62, 3) := by decide +kernel
theorem dX7_air_25 : decode cX7_air 25 = .ok (.ldc2_w 47, 3) := by decide +kernel
theorem dX7_air_28 : decode cX7_air 28 = .ok (.invokestatic 49, 3) := by decide +kernel
theorem dX7_air_31 : decode cX7_air 31 = .ok (.ifCond .ne 10, 3) := by decide +kernel
theorem dX7_air_34 : decode cX7_air 34 = .ok (.aload_n 0, 1) := by decide +kernel
theorem dX7_air_35 : decode cX7_air 35 = .ok (.ldc 46, 2) := by decide +kernel
theorem dX7_air_37 : decode cX7_air 37 = .ok (.invokevirtual 64, 3) := by decide +kernel
theorem dX7_air_40 : decode cX7_air 40 = .ok (.ireturn, 1) := by decide +kernel
theorem dX7_air_41 : decode cX7_air 41 = .ok (.aload_n 0, 1) := by decide +kernel
theorem dX7_air_42 : decode cX7_air 42 = .ok (.bipush 125, 2) := by decide +kernel
theorem dX7_air_44 : decode cX7_air 44 = .ok (.iload_n 1, 1) := by decide +kernel
theorem dX7_air_45 : decode cX7_air 45 = .ok (.iload_n 2, 1) := by decide +kernel
theorem dX7_air_46 : decode cX7_air 46 = .ok (.invokevirtual 114, 3) := by decide +kernel
theorem dX7_air_49 : decode cX7_air 49 = .ok (.ireturn, 1) := by decide +kernel
theorem dX7_settled_0 : decode cX7_settled 0 = .ok (.iload_n 1, 1) := by decide +kernel
theorem dX7_settled_1 : decode cX7_settled 1 = .ok (.i2l, 1) := by decide +kernel
theorem dX7_settled_2 : decode cX7_settled 2 = .ok (.ldc2_w 62, 3) := by decide +kernel
theorem dX7_settled_5 : decode cX7_settled 5 = .ok (.aload_n 0, 1) := by decide +kernel
theorem dX7_settled_6 : decode cX7_settled 6 = .ok (.getfield 7, 3) := by decide +kernel
theorem dX7_settled_9 : decode cX7_settled 9 = .ok (.iconst 1, 1) := by decide +kernel
theorem dX7_settled_10 : decode cX7_settled 10 = .ok (.iaload, 1) := by decide +kernel
theorem dX7_settled_11 : decode cX7_settled 11 = .ok (.iconst 1, 1) := by decide +kernel
theorem dX7_settled_12 : decode cX7_settled 12 = .ok (.isub, 1) := by decide +kernel
theorem dX7_settled_13 : decode cX7_settled 13 = .ok (.i2l, 1) := by decide +kernel
theorem dX7_settled_14 : decode cX7_settled 14 = .ok (.invokestatic 49, 3) := by decide +kernel
theorem dX7_settled_17 : decode cX7_settled 17 = .ok (.ifCond .eq 17, 3) := by decide +kernel
theorem dX7_settled_20 : decode cX7_settled 20 = .ok (.iload_n 2, 1) := by decide +kernel
theorem dX7_settled_21 : decode cX7_settled 21 = .ok (.i2l, 1) := by decide +kernel
theorem dX7_settled_22 : decode cX7_settled 22 = .ok (.ldc2_w 62, 3) := by decide +kernel
theorem dX7_settled_25 : decode cX7_settled 25 = .ok (.ldc2_w 47, 3) := by decide +kernel
theorem dX7_settled_28 : decode cX7_settled 28 = .ok (.invokestatic 49, 3) := by decide +kernel
theorem dX7_settled_31 : decode cX7_settled 31 = .ok (.ifCond .ne 10, 3) := by decide +kernel
theorem dX7_settled_34 : decode cX7_settled 34 = .ok (.aload_n 0, 1) := by decide +kernel
theorem dX7_settled_35 : decode cX7_settled 35 = .ok (.ldc 46, 2) := by decide +kernel
theorem dX7_settled_37 : decode cX7_settled 37 = .ok (.invokevirtual 64, 3) := by decide +kernel
theorem dX7_settled_40 : decode cX7_settled 40 = .ok (.ireturn, 1) := by decide +kernel
theorem dX7_settled_41 : decode cX7_settled 41 = .ok (.aload_n 0, 1) := by decide +kernel
theorem dX7_settled_42 : decode cX7_settled 42 = .ok (.sipush 413, 3) := by decide +kernel
theorem dX7_settled_45 : decode cX7_settled 45 = .ok (.iload_n 1, 1) := by decide +kernel
theorem dX7_settled_46 : decode cX7_settled 46 = .ok (.iload_n 2, 1) := by decide +kernel
theorem dX7_settled_47 : decode cX7_settled 47 = .ok (.invokevirtual 114, 3) := by decide +kernel
theorem dX7_settled_50 : decode cX7_settled 50 = .ok (.ireturn, 1) := by decide +kernel
theorem dX7_parts_0 : decode cX7_parts 0 = .ok (.aload_n 0, 1) := by decide +kernel
theorem dX7_parts_1 : decode cX7_parts 1 = .ok (.iload_n 1, 1) := by decide +kernel
theorem dX7_parts_2 : decode cX7_parts 2 = .ok (.invokevirtual 97, 3) := by decide +kernel
theorem dX7_parts_5 : decode cX7_parts 5 = .ok (.ifCond .eq 15, 3) := by decide +kernel
theorem dX7_parts_8 : decode cX7_parts 8 = .ok (.iload_n 2, 1) := by decide +kernel
theorem dX7_parts_9 : decode cX7_parts 9 = .ok (.i2l, 1) := by decide +kernel
theorem dX7_parts_10 : decode cX7_parts 10 = .ok (.lconst 0, 1) := by decide +kernel
theorem dX7_parts_11 : decode cX7_parts 11 = .ok (.ldc2_w 117, 3) := by decide +kernel
theorem dX7_parts_14 : decode cX7_parts 14 = .ok (.invokestatic 49, 3) := by decide +kernel
theorem dX7_parts_17 : decode cX7_parts 17 = .ok (.ifCond .ne 10, 3) := by decide +kernel
theorem dX7_parts_20 : decode cX7_parts 20 = .ok (.aload_n 0, 1) := by decide +kernel
theorem dX7_parts_21 : decode cX7_parts 21 = .ok (.ldc 46, 2) := by decide +kernel
theorem dX7_parts_23 : decode cX7_parts 23 = .ok (.invokevirtual 64, 3) := by decide +kernel
theorem dX7_parts_26 : decode cX7_parts 26 = .ok (.ireturn, 1) := by decide +kernel
theorem dX7_parts_27 : decode cX7_parts 27 = .ok (.aload_n 0, 1) := by decide +kernel
theorem dX7_parts_28 : decode cX7_parts 28 = .ok (.getfield 7, 3) := by decide +kernel
theorem dX7_parts_31 : decode cX7_parts 31 = .ok (.sipush 701, 3) := by decide +kernel
theorem dX7_parts_34 : decode cX7_parts 34 = .ok (.bipush 8, 2) := by decide +kernel
theorem dX7_parts_36 : decode cX7_parts 36 = .ok (.iload_n 2, 1) := by decide +kernel
theorem dX7_parts_37 : decode cX7_parts 37 = .ok (.imul, 1) := by decide +kernel
theorem dX7_parts_38 : decode cX7_parts 38 = .ok (.iadd, 1) := by decide +kernel
theorem dX7_parts_39 : decode cX7_parts 39 = .ok (.iload_n 1, 1) := by decide +kernel
theorem dX7_parts_40 : decode cX7_parts 40 = .ok (.iadd, 1) := by decide +kernel
theorem dX7_parts_41 : decode cX7_parts 41 = .ok (.iaload, 1) := by decide +kernel
theorem dX7_parts_42 : decode cX7_parts 42 = .ok (.ireturn, 1) := by decide +kernel
theorem dX7_thickest_0 : decode cX7_thickest 0 = .ok (.iconst 0, 1) := by decide +kernel
theorem dX7_thickest_1 : decode cX7_thickest 1 = .ok (.istore_n 1, 1) := by decide +kernel
theorem dX7_thickest_2 : decode cX7_thickest 2 = .ok (.iconst 1, 1) := by decide +kernel
theorem dX7_thickest_3 : decode cX7_thickest 3 = .ok (.istore_n 2, 1) := by decide +kernel
theorem dX7_thickest_4 : decode cX7_thickest 4 = .ok (.iload_n 2, 1) := by decide +kernel
theorem dX7_thickest_5 : decode cX7_thickest 5 = .ok (.bipush 36, 2) := by decide +kernel
theorem dX7_thickest_7 : decode cX7_thickest 7 = .ok (.if_icmp .ge 34, 3) := by decide +kernel
theorem dX7_thickest_10 : decode cX7_thickest 10 = .ok (.aload_n 0, 1) := by decide +kernel
theorem dX7_thickest_11 : decode cX7_thickest 11 = .ok (.bipush 125, 2) := by decide +kernel
theorem dX7_thickest_13 : decode cX7_thickest 13 = .ok (.iconst (-1), 1) := by decide +kernel
theorem dX7_thickest_14 : decode cX7_thickest 14 = .ok (.iload_n 2, 1) := by decide +kernel
theorem dX7_thickest_15 : decode cX7_thickest 15 = .ok (.invokevirtual 114, 3) := by decide +kernel
theorem dX7_thickest_18 : decode cX7_thickest 18 = .ok (.aload_n 0, 1) := by decide +kernel
theorem dX7_thickest_19 : decode cX7_thickest 19 = .ok (.bipush 125, 2) := by decide +kernel
theorem dX7_thickest_21 : decode cX7_thickest 21 = .ok (.iconst (-1), 1) := by decide +kernel
theorem dX7_thickest_22 : decode cX7_thickest 22 = .ok (.iload_n 1, 1) := by decide +kernel
theorem dX7_thickest_23 : decode cX7_thickest 23 = .ok (.invokevirtual 114, 3) := by decide +kernel
theorem dX7_thickest_26 : decode cX7_thickest 26 = .ok (.if_icmp .le 7, 3) := by decide +kernel
theorem dX7_thickest_29 : decode cX7_thickest 29 = .ok (.iload_n 2, 1) := by decide +kernel
theorem dX7_thickest_30 : decode cX7_thickest 30 = .ok (.goto 4, 3) := by decide +kernel
theorem dX7_thickest_33 : decode cX7_thickest 33 = .ok (.iload_n 1, 1) := by decide +kernel
theorem dX7_thickest_34 : decode cX7_thickest 34 = .ok (.istore_n 1, 1) := by decide +kernel
theorem dX7_thickest_35 : decode cX7_thickest 35 = .ok (.iinc 2 1, 3) := by decide +kernel
theorem dX7_thickest_38 : decode cX7_thickest 38 = .ok (.goto (-34), 3) := by decide +kernel
theorem dX7_thickest_41 : decode cX7_thickest 41 = .ok (.iload_n 1, 1) := by decide +kernel
theorem dX7_thickest_42 : decode cX7_thickest 42 = .ok (.ireturn, 1) := by decide +kernel
theorem dX7_touched_0 : decode cX7_touched 0 = .ok (.aload_n 0, 1) := by decide +kernel
theorem dX7_touched_1 : decode cX7_touched 1 = .ok (.iload_n 1, 1) := by decide +kernel
theorem dX7_touched_2 : decode cX7_touched 2 = .ok (.invokevirtual 97, 3) := by decide +kernel
theorem dX7_touched_5 : decode cX7_touched 5 = .ok (.ifCond .ne 10, 3) := by decide +kernel
theorem dX7_touched_8 : decode cX7_touched 8 = .ok (.aload_n 0, 1) := by decide +kernel
theorem dX7_touched_9 : decode cX7_touched 9 = .ok (.ldc 46, 2) := by decide +kernel
theorem dX7_touched_11 : decode cX7_touched 11 = .ok (.invokevirtual 64, 3) := by decide +kernel
theorem dX7_touched_14 : decode cX7_touched 14 = .ok (.ireturn, 1) := by decide +kernel
theorem dX7_touched_15 : decode cX7_touched 15 = .ok (.iconst 0, 1) := by decide +kernel
theorem dX7_touched_16 : decode cX7_touched 16 = .ok (.istore_n 2, 1) := by decide +kernel
theorem dX7_touched_17 : decode cX7_touched 17 = .ok (.iconst 0, 1) := by decide +kernel
theorem dX7_touched_18 : decode cX7_touched 18 = .ok (.istore_n 3, 1) := by decide +kernel
theorem dX7_touched_19 : decode cX7_touched 19 = .ok (.iload_n 3, 1) := by decide +kernel
theorem dX7_touched_20 : decode cX7_touched 20 = .ok (.bipush 36, 2) := by decide +kernel
theorem dX7_touched_22 : decode cX7_touched 22 = .ok (.if_icmp .ge 55, 3) := by decide +kernel
theorem dX7_touched_25 : decode cX7_touched 25 = .ok (.iload_n 2, 1) := by decide +kernel
theorem dX7_touched_26 : decode cX7_touched 26 = .ok (.aload_n 0, 1) := by decide +kernel
theorem dX7_touched_27 : decode cX7_touched 27 = .ok (.getfield 7, 3) := by decide +kernel
theorem dX7_touched_30 : decode cX7_touched 30 = .ok (.iconst 3, 1) := by decide +kernel
theorem dX7_touched_31 : decode cX7_touched 31 = .ok (.iload_n 3, 1) := by decide +kernel
theorem dX7_touched_32 : decode cX7_touched 32 = .ok (.iadd, 1) := by decide +kernel
theorem dX7_touched_33 : decode cX7_touched 33 = .ok (.iaload, 1) := by decide +kernel
theorem dX7_touched_34 : decode cX7_touched 34 = .ok (.ifCond .lt 34, 3) := by decide +kernel
theorem dX7_touched_37 : decode cX7_touched 37 = .ok (.aload_n 0, 1) := by decide +kernel
theorem dX7_touched_38 : decode cX7_touched 38 = .ok (.getfield 7, 3) := by decide +kernel
theorem dX7_touched_41 : decode cX7_touched 41 = .ok (.sipush 413, 3) := by decide +kernel
theorem dX7_touched_44 : decode cX7_touched 44 = .ok (.bipush 36, 2) := by decide +kernel
theorem dX7_touched_46 : decode cX7_touched 46 = .ok (.iload_n 1, 1) := by decide +kernel
theorem dX7_touched_47 : decode cX7_touched 47 = .ok (.imul, 1) := by decide +kernel
theorem dX7_touched_48 : decode cX7_touched 48 = .ok (.iadd, 1) := by decide +kernel
theorem dX7_touched_49 : decode cX7_touched 49 = .ok (.iload_n 3, 1) := by decide +kernel
theorem dX7_touched_50 : decode cX7_touched 50 = .ok (.iadd, 1) := by decide +kernel
theorem dX7_touched_51 : decode cX7_touched 51 = .ok (.iaload, 1) := by decide +kernel
theorem dX7_touched_52 : decode cX7_touched 52 = .ok (.ifCond .le 16, 3) := by decide +kernel
theorem dX7_touched_55 : decode cX7_touched 55 = .ok (.iconst 1, 1) := by decide +kernel
theorem dX7_touched_56 : decode cX7_touched 56 = .ok (.aload_n 0, 1) := by decide +kernel
theorem dX7_touched_57 : decode cX7_touched 57 = .ok (.getfield 7, 3) := by decide +kernel
theorem dX7_touched_60 : decode cX7_touched 60 = .ok (.iconst 3, 1) := by decide +kernel
theorem dX7_touched_61 : decode cX7_touched 61 = .ok (.iload_n 3, 1) := by decide +kernel
theorem dX7_touched_62 : decode cX7_touched 62 = .ok (.iadd, 1) := by decide +kernel
theorem dX7_touched_63 : decode cX7_touched 63 = .ok (.iaload, 1) := by decide +kernel
theorem dX7_touched_64 : decode cX7_touched 64 = .ok (.ishl, 1) := by decide +kernel
theorem dX7_touched_65 : decode cX7_touched 65 = .ok (.goto 4, 3) := by decide +kernel
theorem dX7_touched_68 : decode cX7_touched 68 = .ok (.iconst 0, 1) := by decide +kernel
theorem dX7_touched_69 : decode cX7_touched 69 = .ok (.ior, 1) := by decide +kernel
theorem dX7_touched_70 : decode cX7_touched 70 = .ok (.istore_n 2, 1) := by decide +kernel
theorem dX7_touched_71 : decode cX7_touched 71 = .ok (.iinc 3 1, 3) := by decide +kernel
theorem dX7_touched_74 : decode cX7_touched 74 = .ok (.goto (-55), 3) := by decide +kernel
theorem dX7_touched_77 : decode cX7_touched 77 = .ok (.iload_n 2, 1) := by decide +kernel
theorem dX7_touched_78 : decode cX7_touched 78 = .ok (.ireturn, 1) := by decide +kernel
theorem dX7_carried_0 : decode cX7_carried 0 = .ok (.iload_n 1, 1) := by decide +kernel
theorem dX7_carried_1 : decode cX7_carried 1 = .ok (.tableswitch 73 1 3 #[27, 42, 58], 27) := by decide +kernel
theorem dX7_carried_28 : decode cX7_carried 28 = .ok (.iload_n 0, 1) := by decide +kernel
theorem dX7_carried_29 : decode cX7_carried 29 = .ok (.bipush 6, 2) := by decide +kernel
theorem dX7_carried_31 : decode cX7_carried 31 = .ok (.if_icmp .ge 7, 3) := by decide +kernel
theorem dX7_carried_34 : decode cX7_carried 34 = .ok (.iconst (-1), 1) := by decide +kernel
theorem dX7_carried_35 : decode cX7_carried 35 = .ok (.goto 7, 3) := by decide +kernel
theorem dX7_carried_38 : decode cX7_carried 38 = .ok (.iload_n 0, 1) := by decide +kernel
theorem dX7_carried_39 : decode cX7_carried 39 = .ok (.bipush 6, 2) := by decide +kernel
theorem dX7_carried_41 : decode cX7_carried 41 = .ok (.isub, 1) := by decide +kernel
theorem dX7_carried_42 : decode cX7_carried 42 = .ok (.ireturn, 1) := by decide +kernel
theorem dX7_carried_43 : decode cX7_carried 43 = .ok (.iload_n 0, 1) := by decide +kernel
theorem dX7_carried_44 : decode cX7_carried 44 = .ok (.bipush 6, 2) := by decide +kernel
theorem dX7_carried_46 : decode cX7_carried 46 = .ok (.irem, 1) := by decide +kernel
theorem dX7_carried_47 : decode cX7_carried 47 = .ok (.iconst 5, 1) := by decide +kernel
theorem dX7_carried_48 : decode cX7_carried 48 = .ok (.if_icmp .ne 7, 3) := by decide +kernel
theorem dX7_carried_51 : decode cX7_carried 51 = .ok (.iconst (-1), 1) := by decide +kernel
theorem dX7_carried_52 : decode cX7_carried 52 = .ok (.goto 6, 3) := by decide +kernel
theorem dX7_carried_55 : decode cX7_carried 55 = .ok (.iload_n 0, 1) := by decide +kernel
theorem dX7_carried_56 : decode cX7_carried 56 = .ok (.iconst 1, 1) := by decide +kernel
theorem dX7_carried_57 : decode cX7_carried 57 = .ok (.iadd, 1) := by decide +kernel
theorem dX7_carried_58 : decode cX7_carried 58 = .ok (.ireturn, 1) := by decide +kernel
theorem dX7_carried_59 : decode cX7_carried 59 = .ok (.iload_n 0, 1) := by decide +kernel
theorem dX7_carried_60 : decode cX7_carried 60 = .ok (.bipush 29, 2) := by decide +kernel
theorem dX7_carried_62 : decode cX7_carried 62 = .ok (.if_icmp .le 7, 3) := by decide +kernel
theorem dX7_carried_65 : decode cX7_carried 65 = .ok (.iconst (-1), 1) := by decide +kernel
theorem dX7_carried_66 : decode cX7_carried 66 = .ok (.goto 7, 3) := by decide +kernel
theorem dX7_carried_69 : decode cX7_carried 69 = .ok (.iload_n 0, 1) := by decide +kernel
theorem dX7_carried_70 : decode cX7_carried 70 = .ok (.bipush 6, 2) := by decide +kernel
theorem dX7_carried_72 : decode cX7_carried 72 = .ok (.iadd, 1) := by decide +kernel
theorem dX7_carried_73 : decode cX7_carried 73 = .ok (.ireturn, 1) := by decide +kernel
theorem dX7_carried_74 : decode cX7_carried 74 = .ok (.iload_n 0, 1) := by decide +kernel
theorem dX7_carried_75 : decode cX7_carried 75 = .ok (.bipush 6, 2) := by decide +kernel
theorem dX7_carried_77 : decode cX7_carried 77 = .ok (.irem, 1) := by decide +kernel
theorem dX7_carried_78 : decode cX7_carried 78 = .ok (.ifCond .ne 7, 3) := by decide +kernel
theorem dX7_carried_81 : decode cX7_carried 81 = .ok (.iconst (-1), 1) := by decide +kernel
theorem dX7_carried_82 : decode cX7_carried 82 = .ok (.goto 6, 3) := by decide +kernel
theorem dX7_carried_85 : decode cX7_carried 85 = .ok (.iload_n 0, 1) := by decide +kernel
theorem dX7_carried_86 : decode cX7_carried 86 = .ok (.iconst 1, 1) := by decide +kernel
theorem dX7_carried_87 : decode cX7_carried 87 = .ok (.isub, 1) := by decide +kernel
theorem dX7_carried_88 : decode cX7_carried 88 = .ok (.ireturn, 1) := by decide +kernel
theorem dX7_goes_0 : decode cX7_goes 0 = .ok (.iconst 0, 1) := by decide +kernel
theorem dX7_goes_1 : decode cX7_goes 1 = .ok (.istore_n 3, 1) := by decide +kernel
theorem dX7_goes_2 : decode cX7_goes 2 = .ok (.iload_n 3, 1) := by decide +kernel
theorem dX7_goes_3 : decode cX7_goes 3 = .ok (.bipush 36, 2) := by decide +kernel
theorem dX7_goes_5 : decode cX7_goes 5 = .ok (.if_icmp .ge 16, 3) := by decide +kernel
theorem dX7_goes_8 : decode cX7_goes 8 = .ok (.aload_n 0, 1) := by decide +kernel
theorem dX7_goes_9 : decode cX7_goes 9 = .ok (.getfield 22, 3) := by decide +kernel
theorem dX7_goes_12 : decode cX7_goes 12 = .ok (.iload_n 3, 1) := by decide +kernel
theorem dX7_goes_13 : decode cX7_goes 13 = .ok (.iconst 0, 1) := by decide +kernel
theorem dX7_goes_14 : decode cX7_goes 14 = .ok (.iastore, 1) := by decide +kernel
theorem dX7_goes_15 : decode cX7_goes 15 = .ok (.iinc 3 1, 3) := by decide +kernel
theorem dX7_goes_18 : decode cX7_goes 18 = .ok (.goto (-16), 3) := by decide +kernel
theorem dX7_goes_21 : decode cX7_goes 21 = .ok (.iconst 0, 1) := by decide +kernel
theorem dX7_goes_22 : decode cX7_goes 22 = .ok (.istore_n 3, 1) := by decide +kernel
theorem dX7_goes_23 : decode cX7_goes 23 = .ok (.iload_n 3, 1) := by decide +kernel
theorem dX7_goes_24 : decode cX7_goes 24 = .ok (.bipush 36, 2) := by decide +kernel
theorem dX7_goes_26 : decode cX7_goes 26 = .ok (.if_icmp .ge 97, 3) := by decide +kernel
theorem dX7_goes_29 : decode cX7_goes 29 = .ok (.aload_n 0, 1) := by decide +kernel
theorem dX7_goes_30 : decode cX7_goes 30 = .ok (.getfield 7, 3) := by decide +kernel
theorem dX7_goes_33 : decode cX7_goes 33 = .ok (.bipush 125, 2) := by decide +kernel
theorem dX7_goes_35 : decode cX7_goes 35 = .ok (.bipush 36, 2) := by decide +kernel
theorem dX7_goes_37 : decode cX7_goes 37 = .ok (.iload_n 1, 1) := by decide +kernel
theorem dX7_goes_38 : decode cX7_goes 38 = .ok (.imul, 1) := by decide +kernel
theorem dX7_goes_39 : decode cX7_goes 39 = .ok (.iadd, 1) := by decide +kernel
theorem dX7_goes_40 : decode cX7_goes 40 = .ok (.iload_n 3, 1) := by decide +kernel
theorem dX7_goes_41 : decode cX7_goes 41 = .ok (.iadd, 1) := by decide +kernel
theorem dX7_goes_42 : decode cX7_goes 42 = .ok (.iaload, 1) := by decide +kernel
theorem dX7_goes_43 : decode cX7_goes 43 = .ok (.istore 4, 2) := by decide +kernel
theorem dX7_goes_45 : decode cX7_goes 45 = .ok (.iload_n 2, 1) := by decide +kernel
theorem dX7_goes_46 : decode cX7_goes 46 = .ok (.ifCond .ne 7, 3) := by decide +kernel
theorem dX7_goes_49 : decode cX7_goes 49 = .ok (.iconst (-1), 1) := by decide +kernel
theorem dX7_goes_50 : decode cX7_goes 50 = .ok (.goto 8, 3) := by decide +kernel
theorem dX7_goes_53 : decode cX7_goes 53 = .ok (.iload_n 3, 1) := by decide +kernel
theorem dX7_goes_54 : decode cX7_goes 54 = .ok (.iload_n 2, 1) := by decide +kernel
theorem dX7_goes_55 : decode cX7_goes 55 = .ok (.invokestatic 119, 3) := by decide +kernel
theorem dX7_goes_58 : decode cX7_goes 58 = .ok (.istore 5, 2) := by decide +kernel
theorem dX7_goes_60 : decode cX7_goes 60 = .ok (.iload 5, 2) := by decide +kernel
theorem dX7_goes_62 : decode cX7_goes 62 = .ok (.ifCond .lt 18, 3) := by decide +kernel
theorem dX7_goes_65 : decode cX7_goes 65 = .ok (.aload_n 0, 1) := by decide +kernel
theorem dX7_goes_66 : decode cX7_goes 66 = .ok (.getfield 22, 3) := by decide +kernel
theorem dX7_goes_69 : decode cX7_goes 69 = .ok (.iload 5, 2) := by decide +kernel
theorem dX7_goes_71 : decode cX7_goes 71 = .ok (.dup2, 1) := by decide +kernel
theorem dX7_goes_72 : decode cX7_goes 72 = .ok (.iaload, 1) := by decide +kernel
theorem dX7_goes_73 : decode cX7_goes 73 = .ok (.iload 4, 2) := by decide +kernel
theorem dX7_goes_75 : decode cX7_goes 75 = .ok (.iadd, 1) := by decide +kernel
theorem dX7_goes_76 : decode cX7_goes 76 = .ok (.iastore, 1) := by decide +kernel
theorem dX7_goes_77 : decode cX7_goes 77 = .ok (.goto 40, 3) := by decide +kernel
theorem dX7_goes_80 : decode cX7_goes 80 = .ok (.iload_n 2, 1) := by decide +kernel
theorem dX7_goes_81 : decode cX7_goes 81 = .ok (.ifCond .ne 21, 3) := by decide +kernel
theorem dX7_goes_84 : decode cX7_goes 84 = .ok (.aload_n 0, 1) := by decide +kernel
theorem dX7_goes_85 : decode cX7_goes 85 = .ok (.getfield 7, 3) := by decide +kernel
theorem dX7_goes_88 : decode cX7_goes 88 = .ok (.sipush 709, 3) := by decide +kernel
theorem dX7_goes_91 : decode cX7_goes 91 = .ok (.iload_n 1, 1) := by decide +kernel
theorem dX7_goes_92 : decode cX7_goes 92 = .ok (.iadd, 1) := by decide +kernel
theorem dX7_goes_93 : decode cX7_goes 93 = .ok (.dup2, 1) := by decide +kernel
theorem dX7_goes_94 : decode cX7_goes 94 = .ok (.iaload, 1) := by decide +kernel
theorem dX7_goes_95 : decode cX7_goes 95 = .ok (.iload 4, 2) := by decide +kernel
theorem dX7_goes_97 : decode cX7_goes 97 = .ok (.iadd, 1) := by decide +kernel
theorem dX7_goes_98 : decode cX7_goes 98 = .ok (.iastore, 1) := by decide +kernel
theorem dX7_goes_99 : decode cX7_goes 99 = .ok (.goto 18, 3) := by decide +kernel
theorem dX7_goes_102 : decode cX7_goes 102 = .ok (.aload_n 0, 1) := by decide +kernel
theorem dX7_goes_103 : decode cX7_goes 103 = .ok (.getfield 7, 3) := by decide +kernel
theorem dX7_goes_106 : decode cX7_goes 106 = .ok (.sipush 701, 3) := by decide +kernel
theorem dX7_goes_109 : decode cX7_goes 109 = .ok (.iload_n 1, 1) := by decide +kernel
theorem dX7_goes_110 : decode cX7_goes 110 = .ok (.iadd, 1) := by decide +kernel
theorem dX7_goes_111 : decode cX7_goes 111 = .ok (.dup2, 1) := by decide +kernel
theorem dX7_goes_112 : decode cX7_goes 112 = .ok (.iaload, 1) := by decide +kernel
theorem dX7_goes_113 : decode cX7_goes 113 = .ok (.iload 4, 2) := by decide +kernel
theorem dX7_goes_115 : decode cX7_goes 115 = .ok (.iadd, 1) := by decide +kernel
theorem dX7_goes_116 : decode cX7_goes 116 = .ok (.iastore, 1) := by decide +kernel
theorem dX7_goes_117 : decode cX7_goes 117 = .ok (.iinc 3 1, 3) := by decide +kernel
theorem dX7_goes_120 : decode cX7_goes 120 = .ok (.goto (-97), 3) := by decide +kernel
theorem dX7_goes_123 : decode cX7_goes 123 = .ok (.iconst 0, 1) := by decide +kernel
theorem dX7_goes_124 : decode cX7_goes 124 = .ok (.istore_n 3, 1) := by decide +kernel
theorem dX7_goes_125 : decode cX7_goes 125 = .ok (.iload_n 3, 1) := by decide +kernel
theorem dX7_goes_126 : decode cX7_goes 126 = .ok (.bipush 36, 2) := by decide +kernel
theorem dX7_goes_128 : decode cX7_goes 128 = .ok (.if_icmp .ge 29, 3) := by decide +kernel
theorem dX7_goes_131 : decode cX7_goes 131 = .ok (.aload_n 0, 1) := by decide +kernel
theorem dX7_goes_132 : decode cX7_goes 132 = .ok (.getfield 7, 3) := by decide +kernel
theorem dX7_goes_135 : decode cX7_goes 135 = .ok (.bipush 125, 2) := by decide +kernel
theorem dX7_goes_137 : decode cX7_goes 137 = .ok (.bipush 36, 2) := by decide +kernel
theorem dX7_goes_139 : decode cX7_goes 139 = .ok (.iload_n 1, 1) := by decide +kernel
theorem dX7_goes_140 : decode cX7_goes 140 = .ok (.imul, 1) := by decide +kernel
theorem dX7_goes_141 : decode cX7_goes 141 = .ok (.iadd, 1) := by decide +kernel
theorem dX7_goes_142 : decode cX7_goes 142 = .ok (.iload_n 3, 1) := by decide +kernel
theorem dX7_goes_143 : decode cX7_goes 143 = .ok (.iadd, 1) := by decide +kernel
theorem dX7_goes_144 : decode cX7_goes 144 = .ok (.aload_n 0, 1) := by decide +kernel
theorem dX7_goes_145 : decode cX7_goes 145 = .ok (.getfield 22, 3) := by decide +kernel
theorem dX7_goes_148 : decode cX7_goes 148 = .ok (.iload_n 3, 1) := by decide +kernel
theorem dX7_goes_149 : decode cX7_goes 149 = .ok (.iaload, 1) := by decide +kernel
theorem dX7_goes_150 : decode cX7_goes 150 = .ok (.iastore, 1) := by decide +kernel
theorem dX7_goes_151 : decode cX7_goes 151 = .ok (.iinc 3 1, 3) := by decide +kernel
theorem dX7_goes_154 : decode cX7_goes 154 = .ok (.goto (-29), 3) := by decide +kernel
theorem dX7_goes_157 : decode cX7_goes 157 = .ok (.return_, 1) := by decide +kernel
theorem dX7_settles_0 : decode cX7_settles 0 = .ok (.iconst 0, 1) := by decide +kernel
theorem dX7_settles_1 : decode cX7_settles 1 = .ok (.istore_n 2, 1) := by decide +kernel
theorem dX7_settles_2 : decode cX7_settles 2 = .ok (.iconst 0, 1) := by decide +kernel
theorem dX7_settles_3 : decode cX7_settles 3 = .ok (.istore_n 3, 1) := by decide +kernel
theorem dX7_settles_4 : decode cX7_settles 4 = .ok (.iload_n 3, 1) := by decide +kernel
theorem dX7_settles_5 : decode cX7_settles 5 = .ok (.bipush 36, 2) := by decide +kernel
theorem dX7_settles_7 : decode cX7_settles 7 = .ok (.if_icmp .ge 212, 3) := by decide +kernel
theorem dX7_settles_10 : decode cX7_settles 10 = .ok (.aload_n 0, 1) := by decide +kernel
theorem dX7_settles_11 : decode cX7_settles 11 = .ok (.getfield 7, 3) := by decide +kernel
theorem dX7_settles_14 : decode cX7_settles 14 = .ok (.bipush 125, 2) := by decide +kernel
theorem dX7_settles_16 : decode cX7_settles 16 = .ok (.bipush 36, 2) := by decide +kernel
theorem dX7_settles_18 : decode cX7_settles 18 = .ok (.iload_n 1, 1) := by decide +kernel
theorem dX7_settles_19 : decode cX7_settles 19 = .ok (.imul, 1) := by decide +kernel
theorem dX7_settles_20 : decode cX7_settles 20 = .ok (.iadd, 1) := by decide +kernel
theorem dX7_settles_21 : decode cX7_settles 21 = .ok (.iload_n 3, 1) := by decide +kernel
theorem dX7_settles_22 : decode cX7_settles 22 = .ok (.iadd, 1) := by decide +kernel
theorem dX7_settles_23 : decode cX7_settles 23 = .ok (.iaload, 1) := by decide +kernel
theorem dX7_settles_24 : decode cX7_settles 24 = .ok (.aload_n 0, 1) := by decide +kernel
theorem dX7_settles_25 : decode cX7_settles 25 = .ok (.iload_n 1, 1) := by decide +kernel
theorem dX7_settles_26 : decode cX7_settles 26 = .ok (.invokevirtual 105, 3) := by decide +kernel
theorem dX7_settles_29 : decode cX7_settles 29 = .ok (.imul, 1) := by decide +kernel
theorem dX7_settles_30 : decode cX7_settles 30 = .ok (.bipush 100, 2) := by decide +kernel
theorem dX7_settles_32 : decode cX7_settles 32 = .ok (.idiv, 1) := by decide +kernel
theorem dX7_settles_33 : decode cX7_settles 33 = .ok (.istore 4, 2) := by decide +kernel
theorem dX7_settles_35 : decode cX7_settles 35 = .ok (.aload_n 0, 1) := by decide +kernel
theorem dX7_settles_36 : decode cX7_settles 36 = .ok (.getfield 7, 3) := by decide +kernel
theorem dX7_settles_39 : decode cX7_settles 39 = .ok (.iconst 3, 1) := by decide +kernel
theorem dX7_settles_40 : decode cX7_settles 40 = .ok (.iload_n 3, 1) := by decide +kernel
theorem dX7_settles_41 : decode cX7_settles 41 = .ok (.iadd, 1) := by decide +kernel
theorem dX7_settles_42 : decode cX7_settles 42 = .ok (.iaload, 1) := by decide +kernel
theorem dX7_settles_43 : decode cX7_settles 43 = .ok (.istore 5, 2) := by decide +kernel
theorem dX7_settles_45 : decode cX7_settles 45 = .ok (.aload_n 0, 1) := by decide +kernel
theorem dX7_settles_46 : decode cX7_settles 46 = .ok (.getfield 7, 3) := by decide +kernel
theorem dX7_settles_49 : decode cX7_settles 49 = .ok (.bipush 125, 2) := by decide +kernel
theorem dX7_settles_51 : decode cX7_settles 51 = .ok (.bipush 36, 2) := by decide +kernel
theorem dX7_settles_53 : decode cX7_settles 53 = .ok (.iload_n 1, 1) := by decide +kernel
theorem dX7_settles_54 : decode cX7_settles 54 = .ok (.imul, 1) := by decide +kernel
theorem dX7_settles_55 : decode cX7_settles 55 = .ok (.iadd, 1) := by decide +kernel
theorem dX7_settles_56 : decode cX7_settles 56 = .ok (.iload_n 3, 1) := by decide +kernel
theorem dX7_settles_57 : decode cX7_settles 57 = .ok (.iadd, 1) := by decide +kernel
theorem dX7_settles_58 : decode cX7_settles 58 = .ok (.dup2, 1) := by decide +kernel
theorem dX7_settles_59 : decode cX7_settles 59 = .ok (.iaload, 1) := by decide +kernel
theorem dX7_settles_60 : decode cX7_settles 60 = .ok (.iload 4, 2) := by decide +kernel
theorem dX7_settles_62 : decode cX7_settles 62 = .ok (.isub, 1) := by decide +kernel
theorem dX7_settles_63 : decode cX7_settles 63 = .ok (.iastore, 1) := by decide +kernel
theorem dX7_settles_64 : decode cX7_settles 64 = .ok (.aload_n 0, 1) := by decide +kernel
theorem dX7_settles_65 : decode cX7_settles 65 = .ok (.getfield 7, 3) := by decide +kernel
theorem dX7_settles_68 : decode cX7_settles 68 = .ok (.sipush 413, 3) := by decide +kernel
theorem dX7_settles_71 : decode cX7_settles 71 = .ok (.bipush 36, 2) := by decide +kernel
theorem dX7_settles_73 : decode cX7_settles 73 = .ok (.iload_n 1, 1) := by decide +kernel
theorem dX7_settles_74 : decode cX7_settles 74 = .ok (.imul, 1) := by decide +kernel
theorem dX7_settles_75 : decode cX7_settles 75 = .ok (.iadd, 1) := by decide +kernel
theorem dX7_settles_76 : decode cX7_settles 76 = .ok (.iload_n 3, 1) := by decide +kernel
theorem dX7_settles_77 : decode cX7_settles 77 = .ok (.iadd, 1) := by decide +kernel
theorem dX7_settles_78 : decode cX7_settles 78 = .ok (.dup2, 1) := by decide +kernel
theorem dX7_settles_79 : decode cX7_settles 79 = .ok (.iaload, 1) := by decide +kernel
theorem dX7_settles_80 : decode cX7_settles 80 = .ok (.iload 4, 2) := by decide +kernel
theorem dX7_settles_82 : decode cX7_settles 82 = .ok (.iadd, 1) := by decide +kernel
theorem dX7_settles_83 : decode cX7_settles 83 = .ok (.iastore, 1) := by decide +kernel
theorem dX7_settles_84 : decode cX7_settles 84 = .ok (.iload_n 2, 1) := by decide +kernel
theorem dX7_settles_85 : decode cX7_settles 85 = .ok (.iload 4, 2) := by decide +kernel
theorem dX7_settles_87 : decode cX7_settles 87 = .ok (.iadd, 1) := by decide +kernel
theorem dX7_settles_88 : decode cX7_settles 88 = .ok (.istore_n 2, 1) := by decide +kernel
theorem dX7_settles_89 : decode cX7_settles 89 = .ok (.iload 5, 2) := by decide +kernel
theorem dX7_settles_91 : decode cX7_settles 91 = .ok (.ifCond .lt 122, 3) := by decide +kernel
theorem dX7_settles_94 : decode cX7_settles 94 = .ok (.iload 4, 2) := by decide +kernel
theorem dX7_settles_96 : decode cX7_settles 96 = .ok (.ifCond .le 117, 3) := by decide +kernel
theorem dX7_settles_99 : decode cX7_settles 99 = .ok (.aload_n 0, 1) := by decide +kernel
theorem dX7_settles_100 : decode cX7_settles 100 = .ok (.getfield 25, 3) := by decide +kernel
theorem dX7_settles_103 : decode cX7_settles 103 = .ok (.iload 5, 2) := by decide +kernel
theorem dX7_settles_105 : decode cX7_settles 105 = .ok (.dup2, 1) := by decide +kernel
theorem dX7_settles_106 : decode cX7_settles 106 = .ok (.iaload, 1) := by decide +kernel
theorem dX7_settles_107 : decode cX7_settles 107 = .ok (.aload_n 0, 1) := by decide +kernel
theorem dX7_settles_108 : decode cX7_settles 108 = .ok (.iload_n 1, 1) := by decide +kernel
theorem dX7_settles_109 : decode cX7_settles 109 = .ok (.invokevirtual 102, 3) := by decide +kernel
theorem dX7_settles_112 : decode cX7_settles 112 = .ok (.ifCond .ge 8, 3) := by decide +kernel
theorem dX7_settles_115 : decode cX7_settles 115 = .ok (.iload 4, 2) := by decide +kernel
theorem dX7_settles_117 : decode cX7_settles 117 = .ok (.goto 4, 3) := by decide +kernel
theorem dX7_settles_120 : decode cX7_settles 120 = .ok (.iconst 0, 1) := by decide +kernel
theorem dX7_settles_121 : decode cX7_settles 121 = .ok (.iadd, 1) := by decide +kernel
theorem dX7_settles_122 : decode cX7_settles 122 = .ok (.iastore, 1) := by decide +kernel
theorem dX7_settles_123 : decode cX7_settles 123 = .ok (.aload_n 0, 1) := by decide +kernel
theorem dX7_settles_124 : decode cX7_settles 124 = .ok (.aload_n 0, 1) := by decide +kernel
theorem dX7_settles_125 : decode cX7_settles 125 = .ok (.getfield 122, 3) := by decide +kernel
theorem dX7_settles_128 : decode cX7_settles 128 = .ok (.ifCond .ne 20, 3) := by decide +kernel
theorem dX7_settles_131 : decode cX7_settles 131 = .ok (.iload_n 1, 1) := by decide +kernel
theorem dX7_settles_132 : decode cX7_settles 132 = .ok (.aload_n 0, 1) := by decide +kernel
theorem dX7_settles_133 : decode cX7_settles 133 = .ok (.getfield 126, 3) := by decide +kernel
theorem dX7_settles_136 : decode cX7_settles 136 = .ok (.if_icmp .ne 16, 3) := by decide +kernel
theorem dX7_settles_139 : decode cX7_settles 139 = .ok (.iload 5, 2) := by decide +kernel
theorem dX7_settles_141 : decode cX7_settles 141 = .ok (.aload_n 0, 1) := by decide +kernel
theorem dX7_settles_142 : decode cX7_settles 142 = .ok (.getfield 130, 3) := by decide +kernel
theorem dX7_settles_145 : decode cX7_settles 145 = .ok (.if_icmp .ne 7, 3) := by decide +kernel
theorem dX7_settles_148 : decode cX7_settles 148 = .ok (.iconst 1, 1) := by decide +kernel
theorem dX7_settles_149 : decode cX7_settles 149 = .ok (.goto 4, 3) := by decide +kernel
theorem dX7_settles_152 : decode cX7_settles 152 = .ok (.iconst 0, 1) := by decide +kernel
theorem dX7_settles_153 : decode cX7_settles 153 = .ok (.putfield 122, 3) := by decide +kernel
theorem dX7_settles_156 : decode cX7_settles 156 = .ok (.iload 5, 2) := by decide +kernel
theorem dX7_settles_158 : decode cX7_settles 158 = .ok (.aload_n 0, 1) := by decide +kernel
theorem dX7_settles_159 : decode cX7_settles 159 = .ok (.iload_n 1, 1) := by decide +kernel
theorem dX7_settles_160 : decode cX7_settles 160 = .ok (.iconst 1, 1) := by decide +kernel
theorem dX7_settles_161 : decode cX7_settles 161 = .ok (.invokevirtual 87, 3) := by decide +kernel
theorem dX7_settles_164 : decode cX7_settles 164 = .ok (.if_icmp .eq 49, 3) := by decide +kernel
theorem dX7_settles_167 : decode cX7_settles 167 = .ok (.aload_n 0, 1) := by decide +kernel
theorem dX7_settles_168 : decode cX7_settles 168 = .ok (.getfield 7, 3) := by decide +kernel
theorem dX7_settles_171 : decode cX7_settles 171 = .ok (.bipush 119, 2) := by decide +kernel
theorem dX7_settles_173 : decode cX7_settles 173 = .ok (.iload 5, 2) := by decide +kernel
theorem dX7_settles_175 : decode cX7_settles 175 = .ok (.iadd, 1) := by decide +kernel
theorem dX7_settles_176 : decode cX7_settles 176 = .ok (.dup2, 1) := by decide +kernel
theorem dX7_settles_177 : decode cX7_settles 177 = .ok (.iaload, 1) := by decide +kernel
theorem dX7_settles_178 : decode cX7_settles 178 = .ok (.iload 4, 2) := by decide +kernel
theorem dX7_settles_180 : decode cX7_settles 180 = .ok (.aload_n 0, 1) := by decide +kernel
theorem dX7_settles_181 : decode cX7_settles 181 = .ok (.iload_n 1, 1) := by decide +kernel
theorem dX7_settles_182 : decode cX7_settles 182 = .ok (.invokevirtual 102, 3) := by decide +kernel
theorem dX7_settles_185 : decode cX7_settles 185 = .ok (.imul, 1) := by decide +kernel
theorem dX7_settles_186 : decode cX7_settles 186 = .ok (.isub, 1) := by decide +kernel
theorem dX7_settles_187 : decode cX7_settles 187 = .ok (.iastore, 1) := by decide +kernel
theorem dX7_settles_188 : decode cX7_settles 188 = .ok (.aload_n 0, 1) := by decide +kernel
theorem dX7_settles_189 : decode cX7_settles 189 = .ok (.getfield 7, 3) := by decide +kernel
theorem dX7_settles_192 : decode cX7_settles 192 = .ok (.bipush 119, 2) := by decide +kernel
theorem dX7_settles_194 : decode cX7_settles 194 = .ok (.aload_n 0, 1) := by decide +kernel
theorem dX7_settles_195 : decode cX7_settles 195 = .ok (.iload_n 1, 1) := by decide +kernel
theorem dX7_settles_196 : decode cX7_settles 196 = .ok (.iconst 1, 1) := by decide +kernel
theorem dX7_settles_197 : decode cX7_settles 197 = .ok (.invokevirtual 87, 3) := by decide +kernel
theorem dX7_settles_200 : decode cX7_settles 200 = .ok (.iadd, 1) := by decide +kernel
theorem dX7_settles_201 : decode cX7_settles 201 = .ok (.dup2, 1) := by decide +kernel
theorem dX7_settles_202 : decode cX7_settles 202 = .ok (.iaload, 1) := by decide +kernel
theorem dX7_settles_203 : decode cX7_settles 203 = .ok (.iload 4, 2) := by decide +kernel
theorem dX7_settles_205 : decode cX7_settles 205 = .ok (.aload_n 0, 1) := by decide +kernel
theorem dX7_settles_206 : decode cX7_settles 206 = .ok (.iload_n 1, 1) := by decide +kernel
theorem dX7_settles_207 : decode cX7_settles 207 = .ok (.invokevirtual 102, 3) := by decide +kernel
theorem dX7_settles_210 : decode cX7_settles 210 = .ok (.imul, 1) := by decide +kernel
theorem dX7_settles_211 : decode cX7_settles 211 = .ok (.iadd, 1) := by decide +kernel
theorem dX7_settles_212 : decode cX7_settles 212 = .ok (.iastore, 1) := by decide +kernel
theorem dX7_settles_213 : decode cX7_settles 213 = .ok (.iinc 3 1, 3) := by decide +kernel
theorem dX7_settles_216 : decode cX7_settles 216 = .ok (.goto (-212), 3) := by decide +kernel
theorem dX7_settles_219 : decode cX7_settles 219 = .ok (.iload_n 2, 1) := by decide +kernel
theorem dX7_settles_220 : decode cX7_settles 220 = .ok (.ireturn, 1) := by decide +kernel
theorem dX7_hour_0 : decode cX7_hour 0 = .ok (.aload_n 0, 1) := by decide +kernel
theorem dX7_hour_1 : decode cX7_hour 1 = .ok (.getfield 7, 3) := by decide +kernel
theorem dX7_hour_4 : decode cX7_hour 4 = .ok (.iconst 0, 1) := by decide +kernel
theorem dX7_hour_5 : decode cX7_hour 5 = .ok (.iaload, 1) := by decide +kernel
theorem dX7_hour_6 : decode cX7_hour 6 = .ok (.bipush 24, 2) := by decide +kernel
theorem dX7_hour_8 : decode cX7_hour 8 = .ok (.irem, 1) := by decide +kernel
theorem dX7_hour_9 : decode cX7_hour 9 = .ok (.istore_n 1, 1) := by decide +kernel
theorem dX7_hour_10 : decode cX7_hour 10 = .ok (.iconst 0, 1) := by decide +kernel
theorem dX7_hour_11 : decode cX7_hour 11 = .ok (.istore_n 2, 1) := by decide +kernel
theorem dX7_hour_12 : decode cX7_hour 12 = .ok (.iconst 0, 1) := by decide +kernel
theorem dX7_hour_13 : decode cX7_hour 13 = .ok (.istore_n 3, 1) := by decide +kernel
theorem dX7_hour_14 : decode cX7_hour 14 = .ok (.iload_n 3, 1) := by decide +kernel
theorem dX7_hour_15 : decode cX7_hour 15 = .ok (.aload_n 0, 1) := by decide +kernel
theorem dX7_hour_16 : decode cX7_hour 16 = .ok (.getfield 7, 3) := by decide +kernel
theorem dX7_hour_19 : decode cX7_hour 19 = .ok (.iconst 1, 1) := by decide +kernel
theorem dX7_hour_20 : decode cX7_hour 20 = .ok (.iaload, 1) := by decide +kernel
theorem dX7_hour_21 : decode cX7_hour 21 = .ok (.if_icmp .ge 56, 3) := by decide +kernel
theorem dX7_hour_24 : decode cX7_hour 24 = .ok (.aload_n 0, 1) := by decide +kernel
theorem dX7_hour_25 : decode cX7_hour 25 = .ok (.getfield 7, 3) := by decide +kernel
theorem dX7_hour_28 : decode cX7_hour 28 = .ok (.bipush 125, 2) := by decide +kernel
theorem dX7_hour_30 : decode cX7_hour 30 = .ok (.bipush 36, 2) := by decide +kernel
theorem dX7_hour_32 : decode cX7_hour 32 = .ok (.iload_n 3, 1) := by decide +kernel
theorem dX7_hour_33 : decode cX7_hour 33 = .ok (.imul, 1) := by decide +kernel
theorem dX7_hour_34 : decode cX7_hour 34 = .ok (.iadd, 1) := by decide +kernel
theorem dX7_hour_35 : decode cX7_hour 35 = .ok (.aload_n 0, 1) := by decide +kernel
theorem dX7_hour_36 : decode cX7_hour 36 = .ok (.iload_n 3, 1) := by decide +kernel
theorem dX7_hour_37 : decode cX7_hour 37 = .ok (.iconst 2, 1) := by decide +kernel
theorem dX7_hour_38 : decode cX7_hour 38 = .ok (.invokevirtual 87, 3) := by decide +kernel
theorem dX7_hour_41 : decode cX7_hour 41 = .ok (.iadd, 1) := by decide +kernel
theorem dX7_hour_42 : decode cX7_hour 42 = .ok (.dup2, 1) := by decide +kernel
theorem dX7_hour_43 : decode cX7_hour 43 = .ok (.iaload, 1) := by decide +kernel
theorem dX7_hour_44 : decode cX7_hour 44 = .ok (.aload_n 0, 1) := by decide +kernel
theorem dX7_hour_45 : decode cX7_hour 45 = .ok (.iload_n 3, 1) := by decide +kernel
theorem dX7_hour_46 : decode cX7_hour 46 = .ok (.iload_n 1, 1) := by decide +kernel
theorem dX7_hour_47 : decode cX7_hour 47 = .ok (.invokevirtual 108, 3) := by decide +kernel
theorem dX7_hour_50 : decode cX7_hour 50 = .ok (.iadd, 1) := by decide +kernel
theorem dX7_hour_51 : decode cX7_hour 51 = .ok (.iastore, 1) := by decide +kernel
theorem dX7_hour_52 : decode cX7_hour 52 = .ok (.aload_n 0, 1) := by decide +kernel
theorem dX7_hour_53 : decode cX7_hour 53 = .ok (.getfield 7, 3) := by decide +kernel
theorem dX7_hour_56 : decode cX7_hour 56 = .ok (.sipush 717, 3) := by decide +kernel
theorem dX7_hour_59 : decode cX7_hour 59 = .ok (.iload_n 3, 1) := by decide +kernel
theorem dX7_hour_60 : decode cX7_hour 60 = .ok (.iadd, 1) := by decide +kernel
theorem dX7_hour_61 : decode cX7_hour 61 = .ok (.dup2, 1) := by decide +kernel
theorem dX7_hour_62 : decode cX7_hour 62 = .ok (.iaload, 1) := by decide +kernel
theorem dX7_hour_63 : decode cX7_hour 63 = .ok (.aload_n 0, 1) := by decide +kernel
theorem dX7_hour_64 : decode cX7_hour 64 = .ok (.iload_n 3, 1) := by decide +kernel
theorem dX7_hour_65 : decode cX7_hour 65 = .ok (.iload_n 1, 1) := by decide +kernel
theorem dX7_hour_66 : decode cX7_hour 66 = .ok (.invokevirtual 108, 3) := by decide +kernel
theorem dX7_hour_69 : decode cX7_hour 69 = .ok (.iadd, 1) := by decide +kernel
theorem dX7_hour_70 : decode cX7_hour 70 = .ok (.iastore, 1) := by decide +kernel
theorem dX7_hour_71 : decode cX7_hour 71 = .ok (.iinc 3 1, 3) := by decide +kernel
theorem dX7_hour_74 : decode cX7_hour 74 = .ok (.goto (-60), 3) := by decide +kernel
theorem dX7_hour_77 : decode cX7_hour 77 = .ok (.iconst 0, 1) := by decide +kernel
theorem dX7_hour_78 : decode cX7_hour 78 = .ok (.istore_n 3, 1) := by decide +kernel
theorem dX7_hour_79 : decode cX7_hour 79 = .ok (.iload_n 3, 1) := by decide +kernel
theorem dX7_hour_80 : decode cX7_hour 80 = .ok (.aload_n 0, 1) := by decide +kernel
theorem dX7_hour_81 : decode cX7_hour 81 = .ok (.getfield 7, 3) := by decide +kernel
theorem dX7_hour_84 : decode cX7_hour 84 = .ok (.iconst 1, 1) := by decide +kernel
theorem dX7_hour_85 : decode cX7_hour 85 = .ok (.iaload, 1) := by decide +kernel
theorem dX7_hour_86 : decode cX7_hour 86 = .ok (.if_icmp .ge 23, 3) := by decide +kernel
theorem dX7_hour_89 : decode cX7_hour 89 = .ok (.aload_n 0, 1) := by decide +kernel
theorem dX7_hour_90 : decode cX7_hour 90 = .ok (.iload_n 3, 1) := by decide +kernel
theorem dX7_hour_91 : decode cX7_hour 91 = .ok (.aload_n 0, 1) := by decide +kernel
theorem dX7_hour_92 : decode cX7_hour 92 = .ok (.getfield 7, 3) := by decide +kernel
theorem dX7_hour_95 : decode cX7_hour 95 = .ok (.bipush 39, 2) := by decide +kernel
theorem dX7_hour_97 : decode cX7_hour 97 = .ok (.iload_n 1, 1) := by decide +kernel
theorem dX7_hour_98 : decode cX7_hour 98 = .ok (.iadd, 1) := by decide +kernel
theorem dX7_hour_99 : decode cX7_hour 99 = .ok (.iaload, 1) := by decide +kernel
theorem dX7_hour_100 : decode cX7_hour 100 = .ok (.invokevirtual 133, 3) := by decide +kernel
theorem dX7_hour_103 : decode cX7_hour 103 = .ok (.iinc 3 1, 3) := by decide +kernel
theorem dX7_hour_106 : decode cX7_hour 106 = .ok (.goto (-27), 3) := by decide +kernel
theorem dX7_hour_109 : decode cX7_hour 109 = .ok (.iconst 0, 1) := by decide +kernel
theorem dX7_hour_110 : decode cX7_hour 110 = .ok (.istore_n 3, 1) := by decide +kernel
theorem dX7_hour_111 : decode cX7_hour 111 = .ok (.iload_n 3, 1) := by decide +kernel
theorem dX7_hour_112 : decode cX7_hour 112 = .ok (.aload_n 0, 1) := by decide +kernel
theorem dX7_hour_113 : decode cX7_hour 113 = .ok (.getfield 7, 3) := by decide +kernel
theorem dX7_hour_116 : decode cX7_hour 116 = .ok (.iconst 1, 1) := by decide +kernel
theorem dX7_hour_117 : decode cX7_hour 117 = .ok (.iaload, 1) := by decide +kernel
theorem dX7_hour_118 : decode cX7_hour 118 = .ok (.if_icmp .ge 17, 3) := by decide +kernel
theorem dX7_hour_121 : decode cX7_hour 121 = .ok (.iload_n 2, 1) := by decide +kernel
theorem dX7_hour_122 : decode cX7_hour 122 = .ok (.aload_n 0, 1) := by decide +kernel
theorem dX7_hour_123 : decode cX7_hour 123 = .ok (.iload_n 3, 1) := by decide +kernel
theorem dX7_hour_124 : decode cX7_hour 124 = .ok (.invokevirtual 137, 3) := by decide +kernel
theorem dX7_hour_127 : decode cX7_hour 127 = .ok (.iadd, 1) := by decide +kernel
theorem dX7_hour_128 : decode cX7_hour 128 = .ok (.istore_n 2, 1) := by decide +kernel
theorem dX7_hour_129 : decode cX7_hour 129 = .ok (.iinc 3 1, 3) := by decide +kernel
theorem dX7_hour_132 : decode cX7_hour 132 = .ok (.goto (-21), 3) := by decide +kernel
theorem dX7_hour_135 : decode cX7_hour 135 = .ok (.aload_n 0, 1) := by decide +kernel
theorem dX7_hour_136 : decode cX7_hour 136 = .ok (.getfield 7, 3) := by decide +kernel
theorem dX7_hour_139 : decode cX7_hour 139 = .ok (.iconst 0, 1) := by decide +kernel
theorem dX7_hour_140 : decode cX7_hour 140 = .ok (.dup2, 1) := by decide +kernel
theorem dX7_hour_141 : decode cX7_hour 141 = .ok (.iaload, 1) := by decide +kernel
theorem dX7_hour_142 : decode cX7_hour 142 = .ok (.iconst 1, 1) := by decide +kernel
theorem dX7_hour_143 : decode cX7_hour 143 = .ok (.iadd, 1) := by decide +kernel
theorem dX7_hour_144 : decode cX7_hour 144 = .ok (.iastore, 1) := by decide +kernel
theorem dX7_hour_145 : decode cX7_hour 145 = .ok (.iload_n 2, 1) := by decide +kernel
theorem dX7_hour_146 : decode cX7_hour 146 = .ok (.ireturn, 1) := by decide +kernel
theorem dX7_hoursGo_0 : decode cX7_hoursGo 0 = .ok (.iconst 0, 1) := by decide +kernel
theorem dX7_hoursGo_1 : decode cX7_hoursGo 1 = .ok (.istore_n 2, 1) := by decide +kernel
theorem dX7_hoursGo_2 : decode cX7_hoursGo 2 = .ok (.iload_n 2, 1) := by decide +kernel
theorem dX7_hoursGo_3 : decode cX7_hoursGo 3 = .ok (.bipush 6, 2) := by decide +kernel
theorem dX7_hoursGo_5 : decode cX7_hoursGo 5 = .ok (.if_icmp .ge 16, 3) := by decide +kernel
theorem dX7_hoursGo_8 : decode cX7_hoursGo 8 = .ok (.aload_n 0, 1) := by decide +kernel
theorem dX7_hoursGo_9 : decode cX7_hoursGo 9 = .ok (.getfield 25, 3) := by decide +kernel
theorem dX7_hoursGo_12 : decode cX7_hoursGo 12 = .ok (.iload_n 2, 1) := by decide +kernel
theorem dX7_hoursGo_13 : decode cX7_hoursGo 13 = .ok (.iconst 0, 1) := by decide +kernel
theorem dX7_hoursGo_14 : decode cX7_hoursGo 14 = .ok (.iastore, 1) := by decide +kernel
theorem dX7_hoursGo_15 : decode cX7_hoursGo 15 = .ok (.iinc 2 1, 3) := by decide +kernel
theorem dX7_hoursGo_18 : decode cX7_hoursGo 18 = .ok (.goto (-16), 3) := by decide +kernel
theorem dX7_hoursGo_21 : decode cX7_hoursGo 21 = .ok (.iconst 0, 1) := by decide +kernel
theorem dX7_hoursGo_22 : decode cX7_hoursGo 22 = .ok (.istore_n 2, 1) := by decide +kernel
theorem dX7_hoursGo_23 : decode cX7_hoursGo 23 = .ok (.iconst 0, 1) := by decide +kernel
theorem dX7_hoursGo_24 : decode cX7_hoursGo 24 = .ok (.istore_n 3, 1) := by decide +kernel
theorem dX7_hoursGo_25 : decode cX7_hoursGo 25 = .ok (.iload_n 3, 1) := by decide +kernel
theorem dX7_hoursGo_26 : decode cX7_hoursGo 26 = .ok (.iload_n 1, 1) := by decide +kernel
theorem dX7_hoursGo_27 : decode cX7_hoursGo 27 = .ok (.if_icmp .ge 16, 3) := by decide +kernel
theorem dX7_hoursGo_30 : decode cX7_hoursGo 30 = .ok (.iload_n 2, 1) := by decide +kernel
theorem dX7_hoursGo_31 : decode cX7_hoursGo 31 = .ok (.aload_n 0, 1) := by decide +kernel
theorem dX7_hoursGo_32 : decode cX7_hoursGo 32 = .ok (.invokevirtual 140, 3) := by decide +kernel
theorem dX7_hoursGo_35 : decode cX7_hoursGo 35 = .ok (.iadd, 1) := by decide +kernel
theorem dX7_hoursGo_36 : decode cX7_hoursGo 36 = .ok (.istore_n 2, 1) := by decide +kernel
theorem dX7_hoursGo_37 : decode cX7_hoursGo 37 = .ok (.iinc 3 1, 3) := by decide +kernel
theorem dX7_hoursGo_40 : decode cX7_hoursGo 40 = .ok (.goto (-15), 3) := by decide +kernel
theorem dX7_hoursGo_43 : decode cX7_hoursGo 43 = .ok (.iload_n 2, 1) := by decide +kernel
theorem dX7_hoursGo_44 : decode cX7_hoursGo 44 = .ok (.ireturn, 1) := by decide +kernel
theorem dX7_isTooFar_0 : decode cX7_isTooFar 0 = .ok (.aload_n 0, 1) := by decide +kernel
theorem dX7_isTooFar_1 : decode cX7_isTooFar 1 = .ok (.getfield 7, 3) := by decide +kernel
theorem dX7_isTooFar_4 : decode cX7_isTooFar 4 = .ok (.iconst 0, 1) := by decide +kernel
theorem dX7_isTooFar_5 : decode cX7_isTooFar 5 = .ok (.iaload, 1) := by decide +kernel
theorem dX7_isTooFar_6 : decode cX7_isTooFar 6 = .ok (.iload_n 1, 1) := by decide +kernel
theorem dX7_isTooFar_7 : decode cX7_isTooFar 7 = .ok (.iadd, 1) := by decide +kernel
theorem dX7_isTooFar_8 : decode cX7_isTooFar 8 = .ok (.sipush 9999, 3) := by decide +kernel
theorem dX7_isTooFar_11 : decode cX7_isTooFar 11 = .ok (.if_icmp .le 7, 3) := by decide +kernel
theorem dX7_isTooFar_14 : decode cX7_isTooFar 14 = .ok (.iconst 1, 1) := by decide +kernel
theorem dX7_isTooFar_15 : decode cX7_isTooFar 15 = .ok (.goto 4, 3) := by decide +kernel
theorem dX7_isTooFar_18 : decode cX7_isTooFar 18 = .ok (.iconst 0, 1) := by decide +kernel
theorem dX7_isTooFar_19 : decode cX7_isTooFar 19 = .ok (.ireturn, 1) := by decide +kernel
theorem dX7_hours_0 : decode cX7_hours 0 = .ok (.iload_n 1, 1) := by decide +kernel
theorem dX7_hours_1 : decode cX7_hours 1 = .ok (.i2l, 1) := by decide +kernel
theorem dX7_hours_2 : decode cX7_hours 2 = .ok (.lconst 1, 1) := by decide +kernel
theorem dX7_hours_3 : decode cX7_hours 3 = .ok (.ldc2_w 144, 3) := by decide +kernel
theorem dX7_hours_6 : decode cX7_hours 6 = .ok (.invokestatic 49, 3) := by decide +kernel
theorem dX7_hours_9 : decode cX7_hours 9 = .ok (.ifCond .ne 10, 3) := by decide +kernel
theorem dX7_hours_12 : decode cX7_hours 12 = .ok (.aload_n 0, 1) := by decide +kernel
theorem dX7_hours_13 : decode cX7_hours 13 = .ok (.ldc 46, 2) := by decide +kernel
theorem dX7_hours_15 : decode cX7_hours 15 = .ok (.invokevirtual 64, 3) := by decide +kernel
theorem dX7_hours_18 : decode cX7_hours 18 = .ok (.ireturn, 1) := by decide +kernel
theorem dX7_hours_19 : decode cX7_hours 19 = .ok (.aload_n 0, 1) := by decide +kernel
theorem dX7_hours_20 : decode cX7_hours 20 = .ok (.iload_n 1, 1) := by decide +kernel
theorem dX7_hours_21 : decode cX7_hours 21 = .ok (.invokevirtual 146, 3) := by decide +kernel
theorem dX7_hours_24 : decode cX7_hours 24 = .ok (.ifCond .eq 12, 3) := by decide +kernel
theorem dX7_hours_27 : decode cX7_hours 27 = .ok (.aload_n 0, 1) := by decide +kernel
theorem dX7_hours_28 : decode cX7_hours 28 = .ok (.ldc 149, 2) := by decide +kernel
theorem dX7_hours_30 : decode cX7_hours 30 = .ok (.invokevirtual 64, 3) := by decide +kernel
theorem dX7_hours_33 : decode cX7_hours 33 = .ok (.goto 8, 3) := by decide +kernel
theorem dX7_hours_36 : decode cX7_hours 36 = .ok (.aload_n 0, 1) := by decide +kernel
theorem dX7_hours_37 : decode cX7_hours 37 = .ok (.iload_n 1, 1) := by decide +kernel
theorem dX7_hours_38 : decode cX7_hours 38 = .ok (.invokevirtual 150, 3) := by decide +kernel
theorem dX7_hours_41 : decode cX7_hours 41 = .ok (.ireturn, 1) := by decide +kernel
theorem dX7_allOf_0 : decode cX7_allOf 0 = .ok (.iconst 0, 1) := by decide +kernel
theorem dX7_allOf_1 : decode cX7_allOf 1 = .ok (.istore_n 2, 1) := by decide +kernel
theorem dX7_allOf_2 : decode cX7_allOf 2 = .ok (.iconst 0, 1) := by decide +kernel
theorem dX7_allOf_3 : decode cX7_allOf 3 = .ok (.istore_n 3, 1) := by decide +kernel
theorem dX7_allOf_4 : decode cX7_allOf 4 = .ok (.iload_n 3, 1) := by decide +kernel
theorem dX7_allOf_5 : decode cX7_allOf 5 = .ok (.bipush 8, 2) := by decide +kernel
theorem dX7_allOf_7 : decode cX7_allOf 7 = .ok (.if_icmp .ge 20, 3) := by decide +kernel
theorem dX7_allOf_10 : decode cX7_allOf 10 = .ok (.iload_n 2, 1) := by decide +kernel
theorem dX7_allOf_11 : decode cX7_allOf 11 = .ok (.aload_n 0, 1) := by decide +kernel
theorem dX7_allOf_12 : decode cX7_allOf 12 = .ok (.getfield 7, 3) := by decide +kernel
theorem dX7_allOf_15 : decode cX7_allOf 15 = .ok (.iload_n 1, 1) := by decide +kernel
theorem dX7_allOf_16 : decode cX7_allOf 16 = .ok (.iload_n 3, 1) := by decide +kernel
theorem dX7_allOf_17 : decode cX7_allOf 17 = .ok (.iadd, 1) := by decide +kernel
theorem dX7_allOf_18 : decode cX7_allOf 18 = .ok (.iaload, 1) := by decide +kernel
theorem dX7_allOf_19 : decode cX7_allOf 19 = .ok (.iadd, 1) := by decide +kernel
theorem dX7_allOf_20 : decode cX7_allOf 20 = .ok (.istore_n 2, 1) := by decide +kernel
theorem dX7_allOf_21 : decode cX7_allOf 21 = .ok (.iinc 3 1, 3) := by decide +kernel
theorem dX7_allOf_24 : decode cX7_allOf 24 = .ok (.goto (-20), 3) := by decide +kernel
theorem dX7_allOf_27 : decode cX7_allOf 27 = .ok (.iload_n 2, 1) := by decide +kernel
theorem dX7_allOf_28 : decode cX7_allOf 28 = .ok (.ireturn, 1) := by decide +kernel
theorem dX7_ahead_0 : decode cX7_ahead 0 = .ok (.iload_n 1, 1) := by decide +kernel
theorem dX7_ahead_1 : decode cX7_ahead 1 = .ok (.i2l, 1) := by decide +kernel
theorem dX7_ahead_2 : decode cX7_ahead 2 = .ok (.lconst 0, 1) := by decide +kernel
theorem dX7_ahead_3 : decode cX7_ahead 3 = .ok (.ldc2_w 153, 3) := by decide +kernel
theorem dX7_ahead_6 : decode cX7_ahead 6 = .ok (.invokestatic 49, 3) := by decide +kernel
theorem dX7_ahead_9 : decode cX7_ahead 9 = .ok (.ifCond .eq 15, 3) := by decide +kernel
theorem dX7_ahead_12 : decode cX7_ahead 12 = .ok (.iload_n 2, 1) := by decide +kernel
theorem dX7_ahead_13 : decode cX7_ahead 13 = .ok (.i2l, 1) := by decide +kernel
theorem dX7_ahead_14 : decode cX7_ahead 14 = .ok (.lconst 0, 1) := by decide +kernel
theorem dX7_ahead_15 : decode cX7_ahead 15 = .ok (.ldc2_w 155, 3) := by decide +kernel
theorem dX7_ahead_18 : decode cX7_ahead 18 = .ok (.invokestatic 49, 3) := by decide +kernel
theorem dX7_ahead_21 : decode cX7_ahead 21 = .ok (.ifCond .ne 10, 3) := by decide +kernel
theorem dX7_ahead_24 : decode cX7_ahead 24 = .ok (.aload_n 0, 1) := by decide +kernel
theorem dX7_ahead_25 : decode cX7_ahead 25 = .ok (.ldc 46, 2) := by decide +kernel
theorem dX7_ahead_27 : decode cX7_ahead 27 = .ok (.invokevirtual 64, 3) := by decide +kernel
theorem dX7_ahead_30 : decode cX7_ahead 30 = .ok (.ireturn, 1) := by decide +kernel
theorem dX7_ahead_31 : decode cX7_ahead 31 = .ok (.aload_n 0, 1) := by decide +kernel
theorem dX7_ahead_32 : decode cX7_ahead 32 = .ok (.iload_n 1, 1) := by decide +kernel
theorem dX7_ahead_33 : decode cX7_ahead 33 = .ok (.invokevirtual 146, 3) := by decide +kernel
theorem dX7_ahead_36 : decode cX7_ahead 36 = .ok (.ifCond .eq 10, 3) := by decide +kernel
theorem dX7_ahead_39 : decode cX7_ahead 39 = .ok (.aload_n 0, 1) := by decide +kernel
theorem dX7_ahead_40 : decode cX7_ahead 40 = .ok (.ldc 149, 2) := by decide +kernel
theorem dX7_ahead_42 : decode cX7_ahead 42 = .ok (.invokevirtual 64, 3) := by decide +kernel
theorem dX7_ahead_45 : decode cX7_ahead 45 = .ok (.ireturn, 1) := by decide +kernel
theorem dX7_ahead_46 : decode cX7_ahead 46 = .ok (.aload_n 0, 1) := by decide +kernel
theorem dX7_ahead_47 : decode cX7_ahead 47 = .ok (.invokevirtual 157, 3) := by decide +kernel
theorem dX7_ahead_50 : decode cX7_ahead 50 = .ok (.aload_n 0, 1) := by decide +kernel
theorem dX7_ahead_51 : decode cX7_ahead 51 = .ok (.iload_n 1, 1) := by decide +kernel
theorem dX7_ahead_52 : decode cX7_ahead 52 = .ok (.invokevirtual 150, 3) := by decide +kernel
theorem dX7_ahead_55 : decode cX7_ahead 55 = .ok (.istore_n 3, 1) := by decide +kernel
theorem dX7_ahead_56 : decode cX7_ahead 56 = .ok (.iload_n 2, 1) := by decide +kernel
theorem dX7_ahead_57 : decode cX7_ahead 57 = .ok (.ifCond .ne 7, 3) := by decide +kernel
theorem dX7_ahead_60 : decode cX7_ahead 60 = .ok (.iload_n 3, 1) := by decide +kernel
theorem dX7_ahead_61 : decode cX7_ahead 61 = .ok (.goto 62, 3) := by decide +kernel
theorem dX7_ahead_64 : decode cX7_ahead 64 = .ok (.iload_n 2, 1) := by decide +kernel
theorem dX7_ahead_65 : decode cX7_ahead 65 = .ok (.iconst 1, 1) := by decide +kernel
theorem dX7_ahead_66 : decode cX7_ahead 66 = .ok (.if_icmp .ne 13, 3) := by decide +kernel
theorem dX7_ahead_69 : decode cX7_ahead 69 = .ok (.aload_n 0, 1) := by decide +kernel
theorem dX7_ahead_70 : decode cX7_ahead 70 = .ok (.sipush 709, 3) := by decide +kernel
theorem dX7_ahead_73 : decode cX7_ahead 73 = .ok (.invokevirtual 160, 3) := by decide +kernel
theorem dX7_ahead_76 : decode cX7_ahead 76 = .ok (.goto 47, 3) := by decide +kernel
theorem dX7_ahead_79 : decode cX7_ahead 79 = .ok (.iload_n 2, 1) := by decide +kernel
theorem dX7_ahead_80 : decode cX7_ahead 80 = .ok (.iconst 2, 1) := by decide +kernel
theorem dX7_ahead_81 : decode cX7_ahead 81 = .ok (.if_icmp .ne 13, 3) := by decide +kernel
theorem dX7_ahead_84 : decode cX7_ahead 84 = .ok (.aload_n 0, 1) := by decide +kernel
theorem dX7_ahead_85 : decode cX7_ahead 85 = .ok (.sipush 701, 3) := by decide +kernel
theorem dX7_ahead_88 : decode cX7_ahead 88 = .ok (.invokevirtual 160, 3) := by decide +kernel
theorem dX7_ahead_91 : decode cX7_ahead 91 = .ok (.goto 32, 3) := by decide +kernel
theorem dX7_ahead_94 : decode cX7_ahead 94 = .ok (.iload_n 2, 1) := by decide +kernel
theorem dX7_ahead_95 : decode cX7_ahead 95 = .ok (.bipush 9, 2) := by decide +kernel
theorem dX7_ahead_97 : decode cX7_ahead 97 = .ok (.if_icmp .ge 17, 3) := by decide +kernel
theorem dX7_ahead_100 : decode cX7_ahead 100 = .ok (.aload_n 0, 1) := by decide +kernel
theorem dX7_ahead_101 : decode cX7_ahead 101 = .ok (.getfield 7, 3) := by decide +kernel
theorem dX7_ahead_104 : decode cX7_ahead 104 = .ok (.bipush 119, 2) := by decide +kernel
theorem dX7_ahead_106 : decode cX7_ahead 106 = .ok (.iload_n 2, 1) := by decide +kernel
theorem dX7_ahead_107 : decode cX7_ahead 107 = .ok (.iadd, 1) := by decide +kernel
theorem dX7_ahead_108 : decode cX7_ahead 108 = .ok (.iconst 3, 1) := by decide +kernel
theorem dX7_ahead_109 : decode cX7_ahead 109 = .ok (.isub, 1) := by decide +kernel
theorem dX7_ahead_110 : decode cX7_ahead 110 = .ok (.iaload, 1) := by decide +kernel
theorem dX7_ahead_111 : decode cX7_ahead 111 = .ok (.goto 12, 3) := by decide +kernel
theorem dX7_ahead_114 : decode cX7_ahead 114 = .ok (.aload_n 0, 1) := by decide +kernel
theorem dX7_ahead_115 : decode cX7_ahead 115 = .ok (.getfield 25, 3) := by decide +kernel
theorem dX7_ahead_118 : decode cX7_ahead 118 = .ok (.iload_n 2, 1) := by decide +kernel
theorem dX7_ahead_119 : decode cX7_ahead 119 = .ok (.bipush 9, 2) := by decide +kernel
theorem dX7_ahead_121 : decode cX7_ahead 121 = .ok (.isub, 1) := by decide +kernel
theorem dX7_ahead_122 : decode cX7_ahead 122 = .ok (.iaload, 1) := by decide +kernel
theorem dX7_ahead_123 : decode cX7_ahead 123 = .ok (.istore 4, 2) := by decide +kernel
theorem dX7_ahead_125 : decode cX7_ahead 125 = .ok (.aload_n 0, 1) := by decide +kernel
theorem dX7_ahead_126 : decode cX7_ahead 126 = .ok (.invokevirtual 163, 3) := by decide +kernel
theorem dX7_ahead_129 : decode cX7_ahead 129 = .ok (.iload 4, 2) := by decide +kernel
theorem dX7_ahead_131 : decode cX7_ahead 131 = .ok (.ireturn, 1) := by decide +kernel
theorem dX7_clear_0 : decode cX7_clear 0 = .ok (.aload_n 0, 1) := by decide +kernel
theorem dX7_clear_1 : decode cX7_clear 1 = .ok (.iload_n 1, 1) := by decide +kernel
theorem dX7_clear_2 : decode cX7_clear 2 = .ok (.invokevirtual 97, 3) := by decide +kernel
theorem dX7_clear_5 : decode cX7_clear 5 = .ok (.ifCond .ne 10, 3) := by decide +kernel
theorem dX7_clear_8 : decode cX7_clear 8 = .ok (.aload_n 0, 1) := by decide +kernel
theorem dX7_clear_9 : decode cX7_clear 9 = .ok (.ldc 46, 2) := by decide +kernel
theorem dX7_clear_11 : decode cX7_clear 11 = .ok (.invokevirtual 64, 3) := by decide +kernel
theorem dX7_clear_14 : decode cX7_clear 14 = .ok (.ireturn, 1) := by decide +kernel
theorem dX7_clear_15 : decode cX7_clear 15 = .ok (.aload_n 0, 1) := by decide +kernel
theorem dX7_clear_16 : decode cX7_clear 16 = .ok (.bipush 72, 2) := by decide +kernel
theorem dX7_clear_18 : decode cX7_clear 18 = .ok (.invokevirtual 146, 3) := by decide +kernel
theorem dX7_clear_21 : decode cX7_clear 21 = .ok (.ifCond .eq 10, 3) := by decide +kernel
theorem dX7_clear_24 : decode cX7_clear 24 = .ok (.aload_n 0, 1) := by decide +kernel
theorem dX7_clear_25 : decode cX7_clear 25 = .ok (.ldc 149, 2) := by decide +kernel
theorem dX7_clear_27 : decode cX7_clear 27 = .ok (.invokevirtual 64, 3) := by decide +kernel
theorem dX7_clear_30 : decode cX7_clear 30 = .ok (.ireturn, 1) := by decide +kernel
theorem dX7_clear_31 : decode cX7_clear 31 = .ok (.aload_n 0, 1) := by decide +kernel
theorem dX7_clear_32 : decode cX7_clear 32 = .ok (.invokevirtual 157, 3) := by decide +kernel
theorem dX7_clear_35 : decode cX7_clear 35 = .ok (.iconst 0, 1) := by decide +kernel
theorem dX7_clear_36 : decode cX7_clear 36 = .ok (.istore_n 2, 1) := by decide +kernel
theorem dX7_clear_37 : decode cX7_clear 37 = .ok (.iload_n 2, 1) := by decide +kernel
theorem dX7_clear_38 : decode cX7_clear 38 = .ok (.bipush 72, 2) := by decide +kernel
theorem dX7_clear_40 : decode cX7_clear 40 = .ok (.if_icmp .ge 25, 3) := by decide +kernel
theorem dX7_clear_43 : decode cX7_clear 43 = .ok (.aload_n 0, 1) := by decide +kernel
theorem dX7_clear_44 : decode cX7_clear 44 = .ok (.bipush 125, 2) := by decide +kernel
theorem dX7_clear_46 : decode cX7_clear 46 = .ok (.iload_n 1, 1) := by decide +kernel
theorem dX7_clear_47 : decode cX7_clear 47 = .ok (.iconst (-1), 1) := by decide +kernel
theorem dX7_clear_48 : decode cX7_clear 48 = .ok (.invokevirtual 114, 3) := by decide +kernel
theorem dX7_clear_51 : decode cX7_clear 51 = .ok (.ifCond .le 14, 3) := by decide +kernel
theorem dX7_clear_54 : decode cX7_clear 54 = .ok (.aload_n 0, 1) := by decide +kernel
theorem dX7_clear_55 : decode cX7_clear 55 = .ok (.invokevirtual 140, 3) := by decide +kernel
theorem dX7_clear_58 : decode cX7_clear 58 = .ok (.istore_n 3, 1) := by decide +kernel
theorem dX7_clear_59 : decode cX7_clear 59 = .ok (.iinc 2 1, 3) := by decide +kernel
theorem dX7_clear_62 : decode cX7_clear 62 = .ok (.goto (-25), 3) := by decide +kernel
theorem dX7_clear_65 : decode cX7_clear 65 = .ok (.aload_n 0, 1) := by decide +kernel
theorem dX7_clear_66 : decode cX7_clear 66 = .ok (.bipush 125, 2) := by decide +kernel
theorem dX7_clear_68 : decode cX7_clear 68 = .ok (.iload_n 1, 1) := by decide +kernel
theorem dX7_clear_69 : decode cX7_clear 69 = .ok (.iconst (-1), 1) := by decide +kernel
theorem dX7_clear_70 : decode cX7_clear 70 = .ok (.invokevirtual 114, 3) := by decide +kernel
theorem dX7_clear_73 : decode cX7_clear 73 = .ok (.ifCond .ne 7, 3) := by decide +kernel
theorem dX7_clear_76 : decode cX7_clear 76 = .ok (.iconst 1, 1) := by decide +kernel
theorem dX7_clear_77 : decode cX7_clear 77 = .ok (.goto 4, 3) := by decide +kernel
theorem dX7_clear_80 : decode cX7_clear 80 = .ok (.iconst 0, 1) := by decide +kernel
theorem dX7_clear_81 : decode cX7_clear 81 = .ok (.istore_n 3, 1) := by decide +kernel
theorem dX7_clear_82 : decode cX7_clear 82 = .ok (.aload_n 0, 1) := by decide +kernel
theorem dX7_clear_83 : decode cX7_clear 83 = .ok (.invokevirtual 163, 3) := by decide +kernel
theorem dX7_clear_86 : decode cX7_clear 86 = .ok (.iload_n 3, 1) := by decide +kernel
theorem dX7_clear_87 : decode cX7_clear 87 = .ok (.ifCond .eq 7, 3) := by decide +kernel
theorem dX7_clear_90 : decode cX7_clear 90 = .ok (.iload_n 2, 1) := by decide +kernel
theorem dX7_clear_91 : decode cX7_clear 91 = .ok (.goto 9, 3) := by decide +kernel
theorem dX7_clear_94 : decode cX7_clear 94 = .ok (.aload_n 0, 1) := by decide +kernel
theorem dX7_clear_95 : decode cX7_clear 95 = .ok (.ldc 166, 2) := by decide +kernel
theorem dX7_clear_97 : decode cX7_clear 97 = .ok (.invokevirtual 64, 3) := by decide +kernel
theorem dX7_clear_100 : decode cX7_clear 100 = .ok (.ireturn, 1) := by decide +kernel
theorem dX7_reaches_0 : decode cX7_reaches 0 = .ok (.aload_n 0, 1) := by decide +kernel
theorem dX7_reaches_1 : decode cX7_reaches 1 = .ok (.iload_n 1, 1) := by decide +kernel
theorem dX7_reaches_2 : decode cX7_reaches 2 = .ok (.invokevirtual 97, 3) := by decide +kernel
theorem dX7_reaches_5 : decode cX7_reaches 5 = .ok (.ifCond .eq 10, 3) := by decide +kernel
theorem dX7_reaches_8 : decode cX7_reaches 8 = .ok (.iload_n 2, 1) := by decide +kernel
theorem dX7_reaches_9 : decode cX7_reaches 9 = .ok (.invokestatic 79, 3) := by decide +kernel
theorem dX7_reaches_12 : decode cX7_reaches 12 = .ok (.ifCond .ne 10, 3) := by decide +kernel
theorem dX7_reaches_15 : decode cX7_reaches 15 = .ok (.aload_n 0, 1) := by decide +kernel
theorem dX7_reaches_16 : decode cX7_reaches 16 = .ok (.ldc 46, 2) := by decide +kernel
theorem dX7_reaches_18 : decode cX7_reaches 18 = .ok (.invokevirtual 64, 3) := by decide +kernel
theorem dX7_reaches_21 : decode cX7_reaches 21 = .ok (.ireturn, 1) := by decide +kernel
theorem dX7_reaches_22 : decode cX7_reaches 22 = .ok (.aload_n 0, 1) := by decide +kernel
theorem dX7_reaches_23 : decode cX7_reaches 23 = .ok (.bipush 72, 2) := by decide +kernel
theorem dX7_reaches_25 : decode cX7_reaches 25 = .ok (.invokevirtual 146, 3) := by decide +kernel
theorem dX7_reaches_28 : decode cX7_reaches 28 = .ok (.ifCond .eq 10, 3) := by decide +kernel
theorem dX7_reaches_31 : decode cX7_reaches 31 = .ok (.aload_n 0, 1) := by decide +kernel
theorem dX7_reaches_32 : decode cX7_reaches 32 = .ok (.ldc 149, 2) := by decide +kernel
theorem dX7_reaches_34 : decode cX7_reaches 34 = .ok (.invokevirtual 64, 3) := by decide +kernel
theorem dX7_reaches_37 : decode cX7_reaches 37 = .ok (.ireturn, 1) := by decide +kernel
theorem dX7_reaches_38 : decode cX7_reaches 38 = .ok (.aload_n 0, 1) := by decide +kernel
theorem dX7_reaches_39 : decode cX7_reaches 39 = .ok (.invokevirtual 157, 3) := by decide +kernel
theorem dX7_reaches_42 : decode cX7_reaches 42 = .ok (.aload_n 0, 1) := by decide +kernel
theorem dX7_reaches_43 : decode cX7_reaches 43 = .ok (.iload_n 1, 1) := by decide +kernel
theorem dX7_reaches_44 : decode cX7_reaches 44 = .ok (.putfield 126, 3) := by decide +kernel
theorem dX7_reaches_47 : decode cX7_reaches 47 = .ok (.aload_n 0, 1) := by decide +kernel
theorem dX7_reaches_48 : decode cX7_reaches 48 = .ok (.iload_n 2, 1) := by decide +kernel
theorem dX7_reaches_49 : decode cX7_reaches 49 = .ok (.putfield 130, 3) := by decide +kernel
theorem dX7_reaches_52 : decode cX7_reaches 52 = .ok (.aload_n 0, 1) := by decide +kernel
theorem dX7_reaches_53 : decode cX7_reaches 53 = .ok (.iconst 0, 1) := by decide +kernel
theorem dX7_reaches_54 : decode cX7_reaches 54 = .ok (.putfield 122, 3) := by decide +kernel
theorem dX7_reaches_57 : decode cX7_reaches 57 = .ok (.iconst 0, 1) := by decide +kernel
theorem dX7_reaches_58 : decode cX7_reaches 58 = .ok (.istore_n 3, 1) := by decide +kernel
theorem dX7_reaches_59 : decode cX7_reaches 59 = .ok (.iload_n 3, 1) := by decide +kernel
theorem dX7_reaches_60 : decode cX7_reaches 60 = .ok (.bipush 72, 2) := by decide +kernel
theorem dX7_reaches_62 : decode cX7_reaches 62 = .ok (.if_icmp .ge 22, 3) := by decide +kernel
theorem dX7_reaches_65 : decode cX7_reaches 65 = .ok (.aload_n 0, 1) := by decide +kernel
theorem dX7_reaches_66 : decode cX7_reaches 66 = .ok (.getfield 122, 3) := by decide +kernel
theorem dX7_reaches_69 : decode cX7_reaches 69 = .ok (.ifCond .ne 15, 3) := by decide +kernel
theorem dX7_reaches_72 : decode cX7_reaches 72 = .ok (.aload_n 0, 1) := by decide +kernel
theorem dX7_reaches_73 : decode cX7_reaches 73 = .ok (.invokevirtual 140, 3) := by decide +kernel
theorem dX7_reaches_76 : decode cX7_reaches 76 = .ok (.istore 4, 2) := by decide +kernel
theorem dX7_reaches_78 : decode cX7_reaches 78 = .ok (.iinc 3 1, 3) := by decide +kernel
theorem dX7_reaches_81 : decode cX7_reaches 81 = .ok (.goto (-22), 3) := by decide +kernel
theorem dX7_reaches_84 : decode cX7_reaches 84 = .ok (.aload_n 0, 1) := by decide +kernel
theorem dX7_reaches_85 : decode cX7_reaches 85 = .ok (.invokevirtual 163, 3) := by decide +kernel
theorem dX7_reaches_88 : decode cX7_reaches 88 = .ok (.aload_n 0, 1) := by decide +kernel
theorem dX7_reaches_89 : decode cX7_reaches 89 = .ok (.getfield 122, 3) := by decide +kernel
theorem dX7_reaches_92 : decode cX7_reaches 92 = .ok (.ifCond .eq 7, 3) := by decide +kernel
theorem dX7_reaches_95 : decode cX7_reaches 95 = .ok (.iload_n 3, 1) := by decide +kernel
theorem dX7_reaches_96 : decode cX7_reaches 96 = .ok (.goto 9, 3) := by decide +kernel
theorem dX7_reaches_99 : decode cX7_reaches 99 = .ok (.aload_n 0, 1) := by decide +kernel
theorem dX7_reaches_100 : decode cX7_reaches 100 = .ok (.ldc 166, 2) := by decide +kernel
theorem dX7_reaches_102 : decode cX7_reaches 102 = .ok (.invokevirtual 64, 3) := by decide +kernel
theorem dX7_reaches_105 : decode cX7_reaches 105 = .ok (.ireturn, 1) := by decide +kernel
theorem dX7_bookBehind_0 : decode cX7_bookBehind 0 = .ok (.aload_n 0, 1) := by decide +kernel
theorem dX7_bookBehind_1 : decode cX7_bookBehind 1 = .ok (.iload_n 2, 1) := by decide +kernel
theorem dX7_bookBehind_2 : decode cX7_bookBehind 2 = .ok (.invokevirtual 150, 3) := by decide +kernel
theorem dX7_bookBehind_5 : decode cX7_bookBehind 5 = .ok (.istore_n 3, 1) := by decide +kernel
theorem dX7_bookBehind_6 : decode cX7_bookBehind 6 = .ok (.aload_n 0, 1) := by decide +kernel
theorem dX7_bookBehind_7 : decode cX7_bookBehind 7 = .ok (.getfield 7, 3) := by decide +kernel
theorem dX7_bookBehind_10 : decode cX7_bookBehind 10 = .ok (.bipush 119, 2) := by decide +kernel
theorem dX7_bookBehind_12 : decode cX7_bookBehind 12 = .ok (.iload_n 1, 1) := by decide +kernel
theorem dX7_bookBehind_13 : decode cX7_bookBehind 13 = .ok (.iadd, 1) := by decide +kernel
theorem dX7_bookBehind_14 : decode cX7_bookBehind 14 = .ok (.iaload, 1) := by decide +kernel
theorem dX7_bookBehind_15 : decode cX7_bookBehind 15 = .ok (.istore 4, 2) := by decide +kernel
theorem dX7_bookBehind_17 : decode cX7_bookBehind 17 = .ok (.aload_n 0, 1) := by decide +kernel
theorem dX7_bookBehind_18 : decode cX7_bookBehind 18 = .ok (.invokevirtual 163, 3) := by decide +kernel
theorem dX7_bookBehind_21 : decode cX7_bookBehind 21 = .ok (.iload 4, 2) := by decide +kernel
theorem dX7_bookBehind_23 : decode cX7_bookBehind 23 = .ok (.ireturn, 1) := by decide +kernel
theorem dX7_dirtIn_0 : decode cX7_dirtIn 0 = .ok (.aload_n 0, 1) := by decide +kernel
theorem dX7_dirtIn_1 : decode cX7_dirtIn 1 = .ok (.iload_n 2, 1) := by decide +kernel
theorem dX7_dirtIn_2 : decode cX7_dirtIn 2 = .ok (.invokevirtual 150, 3) := by decide +kernel
theorem dX7_dirtIn_5 : decode cX7_dirtIn 5 = .ok (.istore_n 3, 1) := by decide +kernel
theorem dX7_dirtIn_6 : decode cX7_dirtIn 6 = .ok (.aload_n 0, 1) := by decide +kernel
theorem dX7_dirtIn_7 : decode cX7_dirtIn 7 = .ok (.invokevirtual 163, 3) := by decide +kernel
theorem dX7_dirtIn_10 : decode cX7_dirtIn 10 = .ok (.aload_n 0, 1) := by decide +kernel
theorem dX7_dirtIn_11 : decode cX7_dirtIn 11 = .ok (.getfield 25, 3) := by decide +kernel
theorem dX7_dirtIn_14 : decode cX7_dirtIn 14 = .ok (.iload_n 1, 1) := by decide +kernel
theorem dX7_dirtIn_15 : decode cX7_dirtIn 15 = .ok (.iaload, 1) := by decide +kernel
theorem dX7_dirtIn_16 : decode cX7_dirtIn 16 = .ok (.ireturn, 1) := by decide +kernel
theorem dX7_isDay_0 : decode cX7_isDay 0 = .ok (.iload_n 0, 1) := by decide +kernel
theorem dX7_isDay_1 : decode cX7_isDay 1 = .ok (.i2l, 1) := by decide +kernel
theorem dX7_isDay_2 : decode cX7_isDay 2 = .ok (.lconst 1, 1) := by decide +kernel
theorem dX7_isDay_3 : decode cX7_isDay 3 = .ok (.ldc2_w 167, 3) := by decide +kernel
theorem dX7_isDay_6 : decode cX7_isDay 6 = .ok (.invokestatic 49, 3) := by decide +kernel
theorem dX7_isDay_9 : decode cX7_isDay 9 = .ok (.ireturn, 1) := by decide +kernel
theorem dX7_bestPart_0 : decode cX7_bestPart 0 = .ok (.aload_n 0, 1) := by decide +kernel
theorem dX7_bestPart_1 : decode cX7_bestPart 1 = .ok (.iload_n 1, 1) := by decide +kernel
theorem dX7_bestPart_2 : decode cX7_bestPart 2 = .ok (.iconst 1, 1) := by decide +kernel
theorem dX7_bestPart_3 : decode cX7_bestPart 3 = .ok (.invokevirtual 87, 3) := by decide +kernel
theorem dX7_bestPart_6 : decode cX7_bestPart 6 = .ok (.istore 4, 2) := by decide +kernel
theorem dX7_bestPart_8 : decode cX7_bestPart 8 = .ok (.iconst (-1), 1) := by decide +kernel
theorem dX7_bestPart_9 : decode cX7_bestPart 9 = .ok (.istore 5, 2) := by decide +kernel
theorem dX7_bestPart_11 : decode cX7_bestPart 11 = .ok (.iconst 0, 1) := by decide +kernel
theorem dX7_bestPart_12 : decode cX7_bestPart 12 = .ok (.istore 6, 2) := by decide +kernel
theorem dX7_bestPart_14 : decode cX7_bestPart 14 = .ok (.aload_n 0, 1) := by decide +kernel
theorem dX7_bestPart_15 : decode cX7_bestPart 15 = .ok (.invokevirtual 157, 3) := by decide +kernel
theorem dX7_bestPart_18 : decode cX7_bestPart 18 = .ok (.iconst 0, 1) := by decide +kernel
theorem dX7_bestPart_19 : decode cX7_bestPart 19 = .ok (.istore 7, 2) := by decide +kernel
theorem dX7_bestPart_21 : decode cX7_bestPart 21 = .ok (.iload 7, 2) := by decide +kernel
theorem dX7_bestPart_23 : decode cX7_bestPart 23 = .ok (.iload_n 2, 1) := by decide +kernel
theorem dX7_bestPart_24 : decode cX7_bestPart 24 = .ok (.invokestatic 111, 3) := by decide +kernel
theorem dX7_bestPart_27 : decode cX7_bestPart 27 = .ok (.if_icmp .gt 50, 3) := by decide +kernel
theorem dX7_bestPart_30 : decode cX7_bestPart 30 = .ok (.aload_n 0, 1) := by decide +kernel
theorem dX7_bestPart_31 : decode cX7_bestPart 31 = .ok (.getfield 7, 3) := by decide +kernel
theorem dX7_bestPart_34 : decode cX7_bestPart 34 = .ok (.iload_n 1, 1) := by decide +kernel
theorem dX7_bestPart_35 : decode cX7_bestPart 35 = .ok (.iload_n 2, 1) := by decide +kernel
theorem dX7_bestPart_36 : decode cX7_bestPart 36 = .ok (.invokestatic 73, 3) := by decide +kernel
theorem dX7_bestPart_39 : decode cX7_bestPart 39 = .ok (.iload 7, 2) := by decide +kernel
theorem dX7_bestPart_41 : decode cX7_bestPart 41 = .ok (.iastore, 1) := by decide +kernel
theorem dX7_bestPart_42 : decode cX7_bestPart 42 = .ok (.aload_n 0, 1) := by decide +kernel
theorem dX7_bestPart_43 : decode cX7_bestPart 43 = .ok (.iload 4, 2) := by decide +kernel
theorem dX7_bestPart_45 : decode cX7_bestPart 45 = .ok (.iload_n 3, 1) := by decide +kernel
theorem dX7_bestPart_46 : decode cX7_bestPart 46 = .ok (.invokevirtual 169, 3) := by decide +kernel
theorem dX7_bestPart_49 : decode cX7_bestPart 49 = .ok (.istore 8, 2) := by decide +kernel
theorem dX7_bestPart_51 : decode cX7_bestPart 51 = .ok (.iload 5, 2) := by decide +kernel
theorem dX7_bestPart_53 : decode cX7_bestPart 53 = .ok (.ifCond .lt 10, 3) := by decide +kernel
theorem dX7_bestPart_56 : decode cX7_bestPart 56 = .ok (.iload 8, 2) := by decide +kernel
theorem dX7_bestPart_58 : decode cX7_bestPart 58 = .ok (.iload 6, 2) := by decide +kernel
theorem dX7_bestPart_60 : decode cX7_bestPart 60 = .ok (.if_icmp .le 11, 3) := by decide +kernel
theorem dX7_bestPart_63 : decode cX7_bestPart 63 = .ok (.iload 7, 2) := by decide +kernel
theorem dX7_bestPart_65 : decode cX7_bestPart 65 = .ok (.istore 5, 2) := by decide +kernel
theorem dX7_bestPart_67 : decode cX7_bestPart 67 = .ok (.iload 8, 2) := by decide +kernel
theorem dX7_bestPart_69 : decode cX7_bestPart 69 = .ok (.istore 6, 2) := by decide +kernel
theorem dX7_bestPart_71 : decode cX7_bestPart 71 = .ok (.iinc 7 1, 3) := by decide +kernel
theorem dX7_bestPart_74 : decode cX7_bestPart 74 = .ok (.goto (-53), 3) := by decide +kernel
theorem dX7_bestPart_77 : decode cX7_bestPart 77 = .ok (.iload 5, 2) := by decide +kernel
theorem dX7_bestPart_79 : decode cX7_bestPart 79 = .ok (.ireturn, 1) := by decide +kernel
theorem dX7_place_0 : decode cX7_place 0 = .ok (.aload_n 0, 1) := by decide +kernel
theorem dX7_place_1 : decode cX7_place 1 = .ok (.iload_n 1, 1) := by decide +kernel
theorem dX7_place_2 : decode cX7_place 2 = .ok (.invokevirtual 97, 3) := by decide +kernel
theorem dX7_place_5 : decode cX7_place 5 = .ok (.ifCond .eq 10, 3) := by decide +kernel
theorem dX7_place_8 : decode cX7_place 8 = .ok (.iload_n 2, 1) := by decide +kernel
theorem dX7_place_9 : decode cX7_place 9 = .ok (.invokestatic 172, 3) := by decide +kernel
theorem dX7_place_12 : decode cX7_place 12 = .ok (.ifCond .ne 10, 3) := by decide +kernel
theorem dX7_place_15 : decode cX7_place 15 = .ok (.aload_n 0, 1) := by decide +kernel
theorem dX7_place_16 : decode cX7_place 16 = .ok (.ldc 46, 2) := by decide +kernel
theorem dX7_place_18 : decode cX7_place 18 = .ok (.invokevirtual 64, 3) := by decide +kernel
theorem dX7_place_21 : decode cX7_place 21 = .ok (.ireturn, 1) := by decide +kernel
theorem dX7_place_22 : decode cX7_place 22 = .ok (.aload_n 0, 1) := by decide +kernel
theorem dX7_place_23 : decode cX7_place 23 = .ok (.iload_n 2, 1) := by decide +kernel
theorem dX7_place_24 : decode cX7_place 24 = .ok (.invokevirtual 146, 3) := by decide +kernel
theorem dX7_place_27 : decode cX7_place 27 = .ok (.ifCond .eq 12, 3) := by decide +kernel
theorem dX7_place_30 : decode cX7_place 30 = .ok (.aload_n 0, 1) := by decide +kernel
theorem dX7_place_31 : decode cX7_place 31 = .ok (.ldc 149, 2) := by decide +kernel
theorem dX7_place_33 : decode cX7_place 33 = .ok (.invokevirtual 64, 3) := by decide +kernel
theorem dX7_place_36 : decode cX7_place 36 = .ok (.goto 10, 3) := by decide +kernel
theorem dX7_place_39 : decode cX7_place 39 = .ok (.aload_n 0, 1) := by decide +kernel
theorem dX7_place_40 : decode cX7_place 40 = .ok (.iload_n 1, 1) := by decide +kernel
theorem dX7_place_41 : decode cX7_place 41 = .ok (.iconst 2, 1) := by decide +kernel
theorem dX7_place_42 : decode cX7_place 42 = .ok (.iload_n 2, 1) := by decide +kernel
theorem dX7_place_43 : decode cX7_place 43 = .ok (.invokevirtual 175, 3) := by decide +kernel
theorem dX7_place_46 : decode cX7_place 46 = .ok (.ireturn, 1) := by decide +kernel
theorem dX7_highFor_0 : decode cX7_highFor 0 = .ok (.aload_n 0, 1) := by decide +kernel
theorem dX7_highFor_1 : decode cX7_highFor 1 = .ok (.iload_n 1, 1) := by decide +kernel
theorem dX7_highFor_2 : decode cX7_highFor 2 = .ok (.invokevirtual 97, 3) := by decide +kernel
theorem dX7_highFor_5 : decode cX7_highFor 5 = .ok (.ifCond .eq 10, 3) := by decide +kernel
theorem dX7_highFor_8 : decode cX7_highFor 8 = .ok (.iload_n 2, 1) := by decide +kernel
theorem dX7_highFor_9 : decode cX7_highFor 9 = .ok (.invokestatic 172, 3) := by decide +kernel
theorem dX7_highFor_12 : decode cX7_highFor 12 = .ok (.ifCond .ne 10, 3) := by decide +kernel
theorem dX7_highFor_15 : decode cX7_highFor 15 = .ok (.aload_n 0, 1) := by decide +kernel
theorem dX7_highFor_16 : decode cX7_highFor 16 = .ok (.ldc 46, 2) := by decide +kernel
theorem dX7_highFor_18 : decode cX7_highFor 18 = .ok (.invokevirtual 64, 3) := by decide +kernel
theorem dX7_highFor_21 : decode cX7_highFor 21 = .ok (.ireturn, 1) := by decide +kernel
theorem dX7_highFor_22 : decode cX7_highFor 22 = .ok (.aload_n 0, 1) := by decide +kernel
theorem dX7_highFor_23 : decode cX7_highFor 23 = .ok (.iload_n 2, 1) := by decide +kernel
theorem dX7_highFor_24 : decode cX7_highFor 24 = .ok (.invokevirtual 146, 3) := by decide +kernel
theorem dX7_highFor_27 : decode cX7_highFor 27 = .ok (.ifCond .eq 12, 3) := by decide +kernel
theorem dX7_highFor_30 : decode cX7_highFor 30 = .ok (.aload_n 0, 1) := by decide +kernel
theorem dX7_highFor_31 : decode cX7_highFor 31 = .ok (.ldc 149, 2) := by decide +kernel
theorem dX7_highFor_33 : decode cX7_highFor 33 = .ok (.invokevirtual 64, 3) := by decide +kernel
theorem dX7_highFor_36 : decode cX7_highFor 36 = .ok (.goto 10, 3) := by decide +kernel
theorem dX7_highFor_39 : decode cX7_highFor 39 = .ok (.aload_n 0, 1) := by decide +kernel
theorem dX7_highFor_40 : decode cX7_highFor 40 = .ok (.iload_n 1, 1) := by decide +kernel
theorem dX7_highFor_41 : decode cX7_highFor 41 = .ok (.iconst 3, 1) := by decide +kernel
theorem dX7_highFor_42 : decode cX7_highFor 42 = .ok (.iload_n 2, 1) := by decide +kernel
theorem dX7_highFor_43 : decode cX7_highFor 43 = .ok (.invokevirtual 175, 3) := by decide +kernel
theorem dX7_highFor_46 : decode cX7_highFor 46 = .ok (.ireturn, 1) := by decide +kernel
theorem dX7_gains_0 : decode cX7_gains 0 = .ok (.aload_n 0, 1) := by decide +kernel
theorem dX7_gains_1 : decode cX7_gains 1 = .ok (.iload_n 1, 1) := by decide +kernel
theorem dX7_gains_2 : decode cX7_gains 2 = .ok (.invokevirtual 97, 3) := by decide +kernel
theorem dX7_gains_5 : decode cX7_gains 5 = .ok (.ifCond .eq 10, 3) := by decide +kernel
theorem dX7_gains_8 : decode cX7_gains 8 = .ok (.iload_n 2, 1) := by decide +kernel
theorem dX7_gains_9 : decode cX7_gains 9 = .ok (.invokestatic 172, 3) := by decide +kernel
theorem dX7_gains_12 : decode cX7_gains 12 = .ok (.ifCond .ne 10, 3) := by decide +kernel
theorem dX7_gains_15 : decode cX7_gains 15 = .ok (.aload_n 0, 1) := by decide +kernel
theorem dX7_gains_16 : decode cX7_gains 16 = .ok (.ldc 46, 2) := by decide +kernel
theorem dX7_gains_18 : decode cX7_gains 18 = .ok (.invokevirtual 64, 3) := by decide +kernel
theorem dX7_gains_21 : decode cX7_gains 21 = .ok (.ireturn, 1) := by decide +kernel
theorem dX7_gains_22 : decode cX7_gains 22 = .ok (.aload_n 0, 1) := by decide +kernel
theorem dX7_gains_23 : decode cX7_gains 23 = .ok (.iload_n 1, 1) := by decide +kernel
theorem dX7_gains_24 : decode cX7_gains 24 = .ok (.iconst 3, 1) := by decide +kernel
theorem dX7_gains_25 : decode cX7_gains 25 = .ok (.invokevirtual 87, 3) := by decide +kernel
theorem dX7_gains_28 : decode cX7_gains 28 = .ok (.bipush 9, 2) := by decide +kernel
theorem dX7_gains_30 : decode cX7_gains 30 = .ok (.if_icmp .eq 11, 3) := by decide +kernel
theorem dX7_gains_33 : decode cX7_gains 33 = .ok (.aload_n 0, 1) := by decide +kernel
theorem dX7_gains_34 : decode cX7_gains 34 = .ok (.iload_n 2, 1) := by decide +kernel
theorem dX7_gains_35 : decode cX7_gains 35 = .ok (.invokevirtual 146, 3) := by decide +kernel
theorem dX7_gains_38 : decode cX7_gains 38 = .ok (.ifCond .eq 10, 3) := by decide +kernel
theorem dX7_gains_41 : decode cX7_gains 41 = .ok (.aload_n 0, 1) := by decide +kernel
theorem dX7_gains_42 : decode cX7_gains 42 = .ok (.ldc 149, 2) := by decide +kernel
theorem dX7_gains_44 : decode cX7_gains 44 = .ok (.invokevirtual 64, 3) := by decide +kernel
theorem dX7_gains_47 : decode cX7_gains 47 = .ok (.ireturn, 1) := by decide +kernel
theorem dX7_gains_48 : decode cX7_gains 48 = .ok (.aload_n 0, 1) := by decide +kernel
theorem dX7_gains_49 : decode cX7_gains 49 = .ok (.invokevirtual 157, 3) := by decide +kernel
theorem dX7_gains_52 : decode cX7_gains 52 = .ok (.aload_n 0, 1) := by decide +kernel
theorem dX7_gains_53 : decode cX7_gains 53 = .ok (.iload_n 2, 1) := by decide +kernel
theorem dX7_gains_54 : decode cX7_gains 54 = .ok (.invokevirtual 150, 3) := by decide +kernel
theorem dX7_gains_57 : decode cX7_gains 57 = .ok (.istore_n 3, 1) := by decide +kernel
theorem dX7_gains_58 : decode cX7_gains 58 = .ok (.iconst 0, 1) := by decide +kernel
theorem dX7_gains_59 : decode cX7_gains 59 = .ok (.istore 4, 2) := by decide +kernel
theorem dX7_gains_61 : decode cX7_gains 61 = .ok (.iload 4, 2) := by decide +kernel
theorem dX7_gains_63 : decode cX7_gains 63 = .ok (.bipush 6, 2) := by decide +kernel
theorem dX7_gains_65 : decode cX7_gains 65 = .ok (.if_icmp .ge 26, 3) := by decide +kernel
theorem dX7_gains_68 : decode cX7_gains 68 = .ok (.aload_n 0, 1) := by decide +kernel
theorem dX7_gains_69 : decode cX7_gains 69 = .ok (.getfield 28, 3) := by decide +kernel
theorem dX7_gains_72 : decode cX7_gains 72 = .ok (.iload 4, 2) := by decide +kernel
theorem dX7_gains_74 : decode cX7_gains 74 = .ok (.aload_n 0, 1) := by decide +kernel
theorem dX7_gains_75 : decode cX7_gains 75 = .ok (.getfield 7, 3) := by decide +kernel
theorem dX7_gains_78 : decode cX7_gains 78 = .ok (.bipush 119, 2) := by decide +kernel
theorem dX7_gains_80 : decode cX7_gains 80 = .ok (.iload 4, 2) := by decide +kernel
theorem dX7_gains_82 : decode cX7_gains 82 = .ok (.iadd, 1) := by decide +kernel
theorem dX7_gains_83 : decode cX7_gains 83 = .ok (.iaload, 1) := by decide +kernel
theorem dX7_gains_84 : decode cX7_gains 84 = .ok (.iastore, 1) := by decide +kernel
theorem dX7_gains_85 : decode cX7_gains 85 = .ok (.iinc 4 1, 3) := by decide +kernel
theorem dX7_gains_88 : decode cX7_gains 88 = .ok (.goto (-27), 3) := by decide +kernel
theorem dX7_gains_91 : decode cX7_gains 91 = .ok (.aload_n 0, 1) := by decide +kernel
theorem dX7_gains_92 : decode cX7_gains 92 = .ok (.invokevirtual 163, 3) := by decide +kernel
theorem dX7_gains_95 : decode cX7_gains 95 = .ok (.aload_n 0, 1) := by decide +kernel
theorem dX7_gains_96 : decode cX7_gains 96 = .ok (.getfield 7, 3) := by decide +kernel
theorem dX7_gains_99 : decode cX7_gains 99 = .ok (.iload_n 1, 1) := by decide +kernel
theorem dX7_gains_100 : decode cX7_gains 100 = .ok (.iconst 3, 1) := by decide +kernel
theorem dX7_gains_101 : decode cX7_gains 101 = .ok (.invokestatic 73, 3) := by decide +kernel
theorem dX7_gains_104 : decode cX7_gains 104 = .ok (.dup2, 1) := by decide +kernel
theorem dX7_gains_105 : decode cX7_gains 105 = .ok (.iaload, 1) := by decide +kernel
theorem dX7_gains_106 : decode cX7_gains 106 = .ok (.iconst 1, 1) := by decide +kernel
theorem dX7_gains_107 : decode cX7_gains 107 = .ok (.iadd, 1) := by decide +kernel
theorem dX7_gains_108 : decode cX7_gains 108 = .ok (.iastore, 1) := by decide +kernel
theorem dX7_gains_109 : decode cX7_gains 109 = .ok (.aload_n 0, 1) := by decide +kernel
theorem dX7_gains_110 : decode cX7_gains 110 = .ok (.iload_n 2, 1) := by decide +kernel
theorem dX7_gains_111 : decode cX7_gains 111 = .ok (.invokevirtual 150, 3) := by decide +kernel
theorem dX7_gains_114 : decode cX7_gains 114 = .ok (.istore_n 3, 1) := by decide +kernel
theorem dX7_gains_115 : decode cX7_gains 115 = .ok (.iconst 0, 1) := by decide +kernel
theorem dX7_gains_116 : decode cX7_gains 116 = .ok (.istore 4, 2) := by decide +kernel
theorem dX7_gains_118 : decode cX7_gains 118 = .ok (.iconst 0, 1) := by decide +kernel
theorem dX7_gains_119 : decode cX7_gains 119 = .ok (.istore 5, 2) := by decide +kernel
theorem dX7_gains_121 : decode cX7_gains 121 = .ok (.iload 5, 2) := by decide +kernel
theorem dX7_gains_123 : decode cX7_gains 123 = .ok (.bipush 6, 2) := by decide +kernel
theorem dX7_gains_125 : decode cX7_gains 125 = .ok (.if_icmp .ge 42, 3) := by decide +kernel
theorem dX7_gains_128 : decode cX7_gains 128 = .ok (.iload 4, 2) := by decide +kernel
theorem dX7_gains_130 : decode cX7_gains 130 = .ok (.aload_n 0, 1) := by decide +kernel
theorem dX7_gains_131 : decode cX7_gains 131 = .ok (.getfield 7, 3) := by decide +kernel
theorem dX7_gains_134 : decode cX7_gains 134 = .ok (.bipush 119, 2) := by decide +kernel
theorem dX7_gains_136 : decode cX7_gains 136 = .ok (.iload 5, 2) := by decide +kernel
theorem dX7_gains_138 : decode cX7_gains 138 = .ok (.iadd, 1) := by decide +kernel
theorem dX7_gains_139 : decode cX7_gains 139 = .ok (.iaload, 1) := by decide +kernel
theorem dX7_gains_140 : decode cX7_gains 140 = .ok (.aload_n 0, 1) := by decide +kernel
theorem dX7_gains_141 : decode cX7_gains 141 = .ok (.getfield 28, 3) := by decide +kernel
theorem dX7_gains_144 : decode cX7_gains 144 = .ok (.iload 5, 2) := by decide +kernel
theorem dX7_gains_146 : decode cX7_gains 146 = .ok (.iaload, 1) := by decide +kernel
theorem dX7_gains_147 : decode cX7_gains 147 = .ok (.if_icmp .le 10, 3) := by decide +kernel
theorem dX7_gains_150 : decode cX7_gains 150 = .ok (.iconst 1, 1) := by decide +kernel
theorem dX7_gains_151 : decode cX7_gains 151 = .ok (.iload 5, 2) := by decide +kernel
theorem dX7_gains_153 : decode cX7_gains 153 = .ok (.ishl, 1) := by decide +kernel
theorem dX7_gains_154 : decode cX7_gains 154 = .ok (.goto 4, 3) := by decide +kernel
theorem dX7_gains_157 : decode cX7_gains 157 = .ok (.iconst 0, 1) := by decide +kernel
theorem dX7_gains_158 : decode cX7_gains 158 = .ok (.ior, 1) := by decide +kernel
theorem dX7_gains_159 : decode cX7_gains 159 = .ok (.istore 4, 2) := by decide +kernel
theorem dX7_gains_161 : decode cX7_gains 161 = .ok (.iinc 5 1, 3) := by decide +kernel
theorem dX7_gains_164 : decode cX7_gains 164 = .ok (.goto (-43), 3) := by decide +kernel
theorem dX7_gains_167 : decode cX7_gains 167 = .ok (.aload_n 0, 1) := by decide +kernel
theorem dX7_gains_168 : decode cX7_gains 168 = .ok (.invokevirtual 163, 3) := by decide +kernel
theorem dX7_gains_171 : decode cX7_gains 171 = .ok (.iload 4, 2) := by decide +kernel
theorem dX7_gains_173 : decode cX7_gains 173 = .ok (.ireturn, 1) := by decide +kernel
theorem dX7_when_0 : decode cX7_when 0 = .ok (.aload_n 0, 1) := by decide +kernel
theorem dX7_when_1 : decode cX7_when 1 = .ok (.iload_n 1, 1) := by decide +kernel
theorem dX7_when_2 : decode cX7_when 2 = .ok (.invokevirtual 97, 3) := by decide +kernel
theorem dX7_when_5 : decode cX7_when 5 = .ok (.ifCond .eq 17, 3) := by decide +kernel
theorem dX7_when_8 : decode cX7_when 8 = .ok (.iload_n 2, 1) := by decide +kernel
theorem dX7_when_9 : decode cX7_when 9 = .ok (.invokestatic 79, 3) := by decide +kernel
theorem dX7_when_12 : decode cX7_when 12 = .ok (.ifCond .eq 10, 3) := by decide +kernel
theorem dX7_when_15 : decode cX7_when 15 = .ok (.iload_n 3, 1) := by decide +kernel
theorem dX7_when_16 : decode cX7_when 16 = .ok (.invokestatic 172, 3) := by decide +kernel
theorem dX7_when_19 : decode cX7_when 19 = .ok (.ifCond .ne 10, 3) := by decide +kernel
theorem dX7_when_22 : decode cX7_when 22 = .ok (.aload_n 0, 1) := by decide +kernel
theorem dX7_when_23 : decode cX7_when 23 = .ok (.ldc 46, 2) := by decide +kernel
theorem dX7_when_25 : decode cX7_when 25 = .ok (.invokevirtual 64, 3) := by decide +kernel
theorem dX7_when_28 : decode cX7_when 28 = .ok (.ireturn, 1) := by decide +kernel
theorem dX7_when_29 : decode cX7_when 29 = .ok (.aload_n 0, 1) := by decide +kernel
theorem dX7_when_30 : decode cX7_when 30 = .ok (.iload_n 3, 1) := by decide +kernel
theorem dX7_when_31 : decode cX7_when 31 = .ok (.invokevirtual 146, 3) := by decide +kernel
theorem dX7_when_34 : decode cX7_when 34 = .ok (.ifCond .eq 10, 3) := by decide +kernel
theorem dX7_when_37 : decode cX7_when 37 = .ok (.aload_n 0, 1) := by decide +kernel
theorem dX7_when_38 : decode cX7_when 38 = .ok (.ldc 149, 2) := by decide +kernel
theorem dX7_when_40 : decode cX7_when 40 = .ok (.invokevirtual 64, 3) := by decide +kernel
theorem dX7_when_43 : decode cX7_when 43 = .ok (.ireturn, 1) := by decide +kernel
theorem dX7_when_44 : decode cX7_when 44 = .ok (.iconst (-1), 1) := by decide +kernel
theorem dX7_when_45 : decode cX7_when 45 = .ok (.istore 4, 2) := by decide +kernel
theorem dX7_when_47 : decode cX7_when 47 = .ok (.iconst 0, 1) := by decide +kernel
theorem dX7_when_48 : decode cX7_when 48 = .ok (.istore 5, 2) := by decide +kernel
theorem dX7_when_50 : decode cX7_when 50 = .ok (.aload_n 0, 1) := by decide +kernel
theorem dX7_when_51 : decode cX7_when 51 = .ok (.invokevirtual 157, 3) := by decide +kernel
theorem dX7_when_54 : decode cX7_when 54 = .ok (.iconst 0, 1) := by decide +kernel
theorem dX7_when_55 : decode cX7_when 55 = .ok (.istore 6, 2) := by decide +kernel
theorem dX7_when_57 : decode cX7_when 57 = .ok (.iload 6, 2) := by decide +kernel
theorem dX7_when_59 : decode cX7_when 59 = .ok (.bipush 24, 2) := by decide +kernel
theorem dX7_when_61 : decode cX7_when 61 = .ok (.if_icmp .ge 49, 3) := by decide +kernel
theorem dX7_when_64 : decode cX7_when 64 = .ok (.aload_n 0, 1) := by decide +kernel
theorem dX7_when_65 : decode cX7_when 65 = .ok (.getfield 7, 3) := by decide +kernel
theorem dX7_when_68 : decode cX7_when 68 = .ok (.iload_n 1, 1) := by decide +kernel
theorem dX7_when_69 : decode cX7_when 69 = .ok (.iconst 5, 1) := by decide +kernel
theorem dX7_when_70 : decode cX7_when 70 = .ok (.invokestatic 73, 3) := by decide +kernel
theorem dX7_when_73 : decode cX7_when 73 = .ok (.iload 6, 2) := by decide +kernel
theorem dX7_when_75 : decode cX7_when 75 = .ok (.iastore, 1) := by decide +kernel
theorem dX7_when_76 : decode cX7_when 76 = .ok (.aload_n 0, 1) := by decide +kernel
theorem dX7_when_77 : decode cX7_when 77 = .ok (.iload_n 2, 1) := by decide +kernel
theorem dX7_when_78 : decode cX7_when 78 = .ok (.iload_n 3, 1) := by decide +kernel
theorem dX7_when_79 : decode cX7_when 79 = .ok (.invokevirtual 178, 3) := by decide +kernel
theorem dX7_when_82 : decode cX7_when 82 = .ok (.istore 7, 2) := by decide +kernel
theorem dX7_when_84 : decode cX7_when 84 = .ok (.iload 4, 2) := by decide +kernel
theorem dX7_when_86 : decode cX7_when 86 = .ok (.ifCond .lt 10, 3) := by decide +kernel
theorem dX7_when_89 : decode cX7_when 89 = .ok (.iload 7, 2) := by decide +kernel
theorem dX7_when_91 : decode cX7_when 91 = .ok (.iload 5, 2) := by decide +kernel
theorem dX7_when_93 : decode cX7_when 93 = .ok (.if_icmp .ge 11, 3) := by decide +kernel
theorem dX7_when_96 : decode cX7_when 96 = .ok (.iload 6, 2) := by decide +kernel
theorem dX7_when_98 : decode cX7_when 98 = .ok (.istore 4, 2) := by decide +kernel
theorem dX7_when_100 : decode cX7_when 100 = .ok (.iload 7, 2) := by decide +kernel
theorem dX7_when_102 : decode cX7_when 102 = .ok (.istore 5, 2) := by decide +kernel
theorem dX7_when_104 : decode cX7_when 104 = .ok (.iinc 6 1, 3) := by decide +kernel
theorem dX7_when_107 : decode cX7_when 107 = .ok (.goto (-50), 3) := by decide +kernel
theorem dX7_when_110 : decode cX7_when 110 = .ok (.iload 4, 2) := by decide +kernel
theorem dX7_when_112 : decode cX7_when 112 = .ok (.ireturn, 1) := by decide +kernel
theorem dX7_build_0 : decode cX7_build 0 = .ok (.iload_n 1, 1) := by decide +kernel
theorem dX7_build_1 : decode cX7_build 1 = .ok (.invokestatic 79, 3) := by decide +kernel
theorem dX7_build_4 : decode cX7_build 4 = .ok (.ifCond .eq 10, 3) := by decide +kernel
theorem dX7_build_7 : decode cX7_build 7 = .ok (.iload_n 2, 1) := by decide +kernel
theorem dX7_build_8 : decode cX7_build 8 = .ok (.invokestatic 172, 3) := by decide +kernel
theorem dX7_build_11 : decode cX7_build 11 = .ok (.ifCond .ne 10, 3) := by decide +kernel
theorem dX7_build_14 : decode cX7_build 14 = .ok (.aload_n 0, 1) := by decide +kernel
theorem dX7_build_15 : decode cX7_build 15 = .ok (.ldc 46, 2) := by decide +kernel
theorem dX7_build_17 : decode cX7_build 17 = .ok (.invokevirtual 64, 3) := by decide +kernel
theorem dX7_build_20 : decode cX7_build 20 = .ok (.ireturn, 1) := by decide +kernel
theorem dX7_build_21 : decode cX7_build 21 = .ok (.aload_n 0, 1) := by decide +kernel
theorem dX7_build_22 : decode cX7_build 22 = .ok (.iload_n 2, 1) := by decide +kernel
theorem dX7_build_23 : decode cX7_build 23 = .ok (.invokevirtual 146, 3) := by decide +kernel
theorem dX7_build_26 : decode cX7_build 26 = .ok (.ifCond .eq 10, 3) := by decide +kernel
theorem dX7_build_29 : decode cX7_build 29 = .ok (.aload_n 0, 1) := by decide +kernel
theorem dX7_build_30 : decode cX7_build 30 = .ok (.ldc 149, 2) := by decide +kernel
theorem dX7_build_32 : decode cX7_build 32 = .ok (.invokevirtual 64, 3) := by decide +kernel
theorem dX7_build_35 : decode cX7_build 35 = .ok (.ireturn, 1) := by decide +kernel
theorem dX7_build_36 : decode cX7_build 36 = .ok (.iconst (-1), 1) := by decide +kernel
theorem dX7_build_37 : decode cX7_build 37 = .ok (.istore_n 3, 1) := by decide +kernel
theorem dX7_build_38 : decode cX7_build 38 = .ok (.iconst 0, 1) := by decide +kernel
theorem dX7_build_39 : decode cX7_build 39 = .ok (.istore 4, 2) := by decide +kernel
theorem dX7_build_41 : decode cX7_build 41 = .ok (.aload_n 0, 1) := by decide +kernel
theorem dX7_build_42 : decode cX7_build 42 = .ok (.invokevirtual 157, 3) := by decide +kernel
theorem dX7_build_45 : decode cX7_build 45 = .ok (.iconst 0, 1) := by decide +kernel
theorem dX7_build_46 : decode cX7_build 46 = .ok (.istore 5, 2) := by decide +kernel
theorem dX7_build_48 : decode cX7_build 48 = .ok (.iload 5, 2) := by decide +kernel
theorem dX7_build_50 : decode cX7_build 50 = .ok (.bipush 36, 2) := by decide +kernel
theorem dX7_build_52 : decode cX7_build 52 = .ok (.if_icmp .ge 57, 3) := by decide +kernel
theorem dX7_build_55 : decode cX7_build 55 = .ok (.aload_n 0, 1) := by decide +kernel
theorem dX7_build_56 : decode cX7_build 56 = .ok (.getfield 7, 3) := by decide +kernel
theorem dX7_build_59 : decode cX7_build 59 = .ok (.iconst 3, 1) := by decide +kernel
theorem dX7_build_60 : decode cX7_build 60 = .ok (.iload 5, 2) := by decide +kernel
theorem dX7_build_62 : decode cX7_build 62 = .ok (.iadd, 1) := by decide +kernel
theorem dX7_build_63 : decode cX7_build 63 = .ok (.iaload, 1) := by decide +kernel
theorem dX7_build_64 : decode cX7_build 64 = .ok (.ifCond .ge 39, 3) := by decide +kernel
theorem dX7_build_67 : decode cX7_build 67 = .ok (.aload_n 0, 1) := by decide +kernel
theorem dX7_build_68 : decode cX7_build 68 = .ok (.getfield 7, 3) := by decide +kernel
theorem dX7_build_71 : decode cX7_build 71 = .ok (.iconst 3, 1) := by decide +kernel
theorem dX7_build_72 : decode cX7_build 72 = .ok (.iload 5, 2) := by decide +kernel
theorem dX7_build_74 : decode cX7_build 74 = .ok (.iadd, 1) := by decide +kernel
theorem dX7_build_75 : decode cX7_build 75 = .ok (.iload_n 1, 1) := by decide +kernel
theorem dX7_build_76 : decode cX7_build 76 = .ok (.iastore, 1) := by decide +kernel
theorem dX7_build_77 : decode cX7_build 77 = .ok (.aload_n 0, 1) := by decide +kernel
theorem dX7_build_78 : decode cX7_build 78 = .ok (.iload_n 1, 1) := by decide +kernel
theorem dX7_build_79 : decode cX7_build 79 = .ok (.iload_n 2, 1) := by decide +kernel
theorem dX7_build_80 : decode cX7_build 80 = .ok (.invokevirtual 169, 3) := by decide +kernel
theorem dX7_build_83 : decode cX7_build 83 = .ok (.istore 6, 2) := by decide +kernel
theorem dX7_build_85 : decode cX7_build 85 = .ok (.iload_n 3, 1) := by decide +kernel
theorem dX7_build_86 : decode cX7_build 86 = .ok (.ifCond .lt 10, 3) := by decide +kernel
theorem dX7_build_89 : decode cX7_build 89 = .ok (.iload 6, 2) := by decide +kernel
theorem dX7_build_91 : decode cX7_build 91 = .ok (.iload 4, 2) := by decide +kernel
theorem dX7_build_93 : decode cX7_build 93 = .ok (.if_icmp .le 10, 3) := by decide +kernel
theorem dX7_build_96 : decode cX7_build 96 = .ok (.iload 5, 2) := by decide +kernel
theorem dX7_build_98 : decode cX7_build 98 = .ok (.istore_n 3, 1) := by decide +kernel
theorem dX7_build_99 : decode cX7_build 99 = .ok (.iload 6, 2) := by decide +kernel
theorem dX7_build_101 : decode cX7_build 101 = .ok (.istore 4, 2) := by decide +kernel
theorem dX7_build_103 : decode cX7_build 103 = .ok (.iinc 5 1, 3) := by decide +kernel
theorem dX7_build_106 : decode cX7_build 106 = .ok (.goto (-58), 3) := by decide +kernel
theorem dX7_build_109 : decode cX7_build 109 = .ok (.iload_n 3, 1) := by decide +kernel
theorem dX7_build_110 : decode cX7_build 110 = .ok (.ifCond .ge 12, 3) := by decide +kernel
theorem dX7_build_113 : decode cX7_build 113 = .ok (.aload_n 0, 1) := by decide +kernel
theorem dX7_build_114 : decode cX7_build 114 = .ok (.ldc 166, 2) := by decide +kernel
theorem dX7_build_116 : decode cX7_build 116 = .ok (.invokevirtual 64, 3) := by decide +kernel
theorem dX7_build_119 : decode cX7_build 119 = .ok (.goto 4, 3) := by decide +kernel
theorem dX7_build_122 : decode cX7_build 122 = .ok (.iload_n 3, 1) := by decide +kernel
theorem dX7_build_123 : decode cX7_build 123 = .ok (.ireturn, 1) := by decide +kernel
theorem dX7_washing_0 : decode cX7_washing 0 = .ok (.iload_n 1, 1) := by decide +kernel
theorem dX7_washing_1 : decode cX7_washing 1 = .ok (.invokestatic 79, 3) := by decide +kernel
theorem dX7_washing_4 : decode cX7_washing 4 = .ok (.ifCond .eq 15, 3) := by decide +kernel
theorem dX7_washing_7 : decode cX7_washing 7 = .ok (.iload_n 2, 1) := by decide +kernel
theorem dX7_washing_8 : decode cX7_washing 8 = .ok (.i2l, 1) := by decide +kernel
theorem dX7_washing_9 : decode cX7_washing 9 = .ok (.lconst 1, 1) := by decide +kernel
theorem dX7_washing_10 : decode cX7_washing 10 = .ok (.ldc2_w 181, 3) := by decide +kernel
theorem dX7_washing_13 : decode cX7_washing 13 = .ok (.invokestatic 49, 3) := by decide +kernel
theorem dX7_washing_16 : decode cX7_washing 16 = .ok (.ifCond .ne 10, 3) := by decide +kernel
theorem dX7_washing_19 : decode cX7_washing 19 = .ok (.aload_n 0, 1) := by decide +kernel
theorem dX7_washing_20 : decode cX7_washing 20 = .ok (.ldc 46, 2) := by decide +kernel
theorem dX7_washing_22 : decode cX7_washing 22 = .ok (.invokevirtual 64, 3) := by decide +kernel
theorem dX7_washing_25 : decode cX7_washing 25 = .ok (.ireturn, 1) := by decide +kernel
theorem dX7_washing_26 : decode cX7_washing 26 = .ok (.aload_n 0, 1) := by decide +kernel
theorem dX7_washing_27 : decode cX7_washing 27 = .ok (.iload_n 2, 1) := by decide +kernel
theorem dX7_washing_28 : decode cX7_washing 28 = .ok (.invokevirtual 146, 3) := by decide +kernel
theorem dX7_washing_31 : decode cX7_washing 31 = .ok (.ifCond .eq 10, 3) := by decide +kernel
theorem dX7_washing_34 : decode cX7_washing 34 = .ok (.aload_n 0, 1) := by decide +kernel
theorem dX7_washing_35 : decode cX7_washing 35 = .ok (.ldc 149, 2) := by decide +kernel
theorem dX7_washing_37 : decode cX7_washing 37 = .ok (.invokevirtual 64, 3) := by decide +kernel
theorem dX7_washing_40 : decode cX7_washing 40 = .ok (.ireturn, 1) := by decide +kernel
theorem dX7_washing_41 : decode cX7_washing 41 = .ok (.iconst (-1), 1) := by decide +kernel
theorem dX7_washing_42 : decode cX7_washing 42 = .ok (.istore_n 3, 1) := by decide +kernel
theorem dX7_washing_43 : decode cX7_washing 43 = .ok (.iconst (-1), 1) := by decide +kernel
theorem dX7_washing_44 : decode cX7_washing 44 = .ok (.istore 4, 2) := by decide +kernel
theorem dX7_washing_46 : decode cX7_washing 46 = .ok (.aload_n 0, 1) := by decide +kernel
theorem dX7_washing_47 : decode cX7_washing 47 = .ok (.invokevirtual 157, 3) := by decide +kernel
theorem dX7_washing_50 : decode cX7_washing 50 = .ok (.iconst 0, 1) := by decide +kernel
theorem dX7_washing_51 : decode cX7_washing 51 = .ok (.istore 5, 2) := by decide +kernel
theorem dX7_washing_53 : decode cX7_washing 53 = .ok (.iload 5, 2) := by decide +kernel
theorem dX7_washing_55 : decode cX7_washing 55 = .ok (.iconst 1, 1) := by decide +kernel
theorem dX7_washing_56 : decode cX7_washing 56 = .ok (.aload_n 0, 1) := by decide +kernel
theorem dX7_washing_57 : decode cX7_washing 57 = .ok (.getfield 7, 3) := by decide +kernel
theorem dX7_washing_60 : decode cX7_washing 60 = .ok (.iconst 1, 1) := by decide +kernel
theorem dX7_washing_61 : decode cX7_washing 61 = .ok (.iaload, 1) := by decide +kernel
theorem dX7_washing_62 : decode cX7_washing 62 = .ok (.ishl, 1) := by decide +kernel
theorem dX7_washing_63 : decode cX7_washing 63 = .ok (.if_icmp .ge 135, 3) := by decide +kernel
theorem dX7_washing_66 : decode cX7_washing 66 = .ok (.iconst 0, 1) := by decide +kernel
theorem dX7_washing_67 : decode cX7_washing 67 = .ok (.istore 6, 2) := by decide +kernel
theorem dX7_washing_69 : decode cX7_washing 69 = .ok (.iconst 0, 1) := by decide +kernel
theorem dX7_washing_70 : decode cX7_washing 70 = .ok (.istore 7, 2) := by decide +kernel
theorem dX7_washing_72 : decode cX7_washing 72 = .ok (.iload 7, 2) := by decide +kernel
theorem dX7_washing_74 : decode cX7_washing 74 = .ok (.aload_n 0, 1) := by decide +kernel
theorem dX7_washing_75 : decode cX7_washing 75 = .ok (.getfield 7, 3) := by decide +kernel
theorem dX7_washing_78 : decode cX7_washing 78 = .ok (.iconst 1, 1) := by decide +kernel
theorem dX7_washing_79 : decode cX7_washing 79 = .ok (.iaload, 1) := by decide +kernel
theorem dX7_washing_80 : decode cX7_washing 80 = .ok (.if_icmp .ge 35, 3) := by decide +kernel
theorem dX7_washing_83 : decode cX7_washing 83 = .ok (.iload 6, 2) := by decide +kernel
theorem dX7_washing_85 : decode cX7_washing 85 = .ok (.iload 5, 2) := by decide +kernel
theorem dX7_washing_87 : decode cX7_washing 87 = .ok (.iload 7, 2) := by decide +kernel
theorem dX7_washing_89 : decode cX7_washing 89 = .ok (.invokestatic 183, 3) := by decide +kernel
theorem dX7_washing_92 : decode cX7_washing 92 = .ok (.ifCond .eq 13, 3) := by decide +kernel
theorem dX7_washing_95 : decode cX7_washing 95 = .ok (.aload_n 0, 1) := by decide +kernel
theorem dX7_washing_96 : decode cX7_washing 96 = .ok (.iload 7, 2) := by decide +kernel
theorem dX7_washing_98 : decode cX7_washing 98 = .ok (.iconst 4, 1) := by decide +kernel
theorem dX7_washing_99 : decode cX7_washing 99 = .ok (.invokevirtual 87, 3) := by decide +kernel
theorem dX7_washing_102 : decode cX7_washing 102 = .ok (.goto 4, 3) := by decide +kernel
theorem dX7_washing_105 : decode cX7_washing 105 = .ok (.iconst 0, 1) := by decide +kernel
theorem dX7_washing_106 : decode cX7_washing 106 = .ok (.iadd, 1) := by decide +kernel
theorem dX7_washing_107 : decode cX7_washing 107 = .ok (.istore 6, 2) := by decide +kernel
theorem dX7_washing_109 : decode cX7_washing 109 = .ok (.iinc 7 1, 3) := by decide +kernel
theorem dX7_washing_112 : decode cX7_washing 112 = .ok (.goto (-40), 3) := by decide +kernel
theorem dX7_washing_115 : decode cX7_washing 115 = .ok (.iload 6, 2) := by decide +kernel
theorem dX7_washing_117 : decode cX7_washing 117 = .ok (.iload 4, 2) := by decide +kernel
theorem dX7_washing_119 : decode cX7_washing 119 = .ok (.if_icmp .le 73, 3) := by decide +kernel
theorem dX7_washing_122 : decode cX7_washing 122 = .ok (.iconst 0, 1) := by decide +kernel
theorem dX7_washing_123 : decode cX7_washing 123 = .ok (.istore 7, 2) := by decide +kernel
theorem dX7_washing_125 : decode cX7_washing 125 = .ok (.iload 7, 2) := by decide +kernel
theorem dX7_washing_127 : decode cX7_washing 127 = .ok (.aload_n 0, 1) := by decide +kernel
theorem dX7_washing_128 : decode cX7_washing 128 = .ok (.getfield 7, 3) := by decide +kernel
theorem dX7_washing_131 : decode cX7_washing 131 = .ok (.iconst 1, 1) := by decide +kernel
theorem dX7_washing_132 : decode cX7_washing 132 = .ok (.iaload, 1) := by decide +kernel
theorem dX7_washing_133 : decode cX7_washing 133 = .ok (.if_icmp .ge 43, 3) := by decide +kernel
theorem dX7_washing_136 : decode cX7_washing 136 = .ok (.aload_n 0, 1) := by decide +kernel
theorem dX7_washing_137 : decode cX7_washing 137 = .ok (.getfield 7, 3) := by decide +kernel
theorem dX7_washing_140 : decode cX7_washing 140 = .ok (.iload 7, 2) := by decide +kernel
theorem dX7_washing_142 : decode cX7_washing 142 = .ok (.bipush 6, 2) := by decide +kernel
theorem dX7_washing_144 : decode cX7_washing 144 = .ok (.invokestatic 73, 3) := by decide +kernel
theorem dX7_washing_147 : decode cX7_washing 147 = .ok (.iload 5, 2) := by decide +kernel
theorem dX7_washing_149 : decode cX7_washing 149 = .ok (.iload 7, 2) := by decide +kernel
theorem dX7_washing_151 : decode cX7_washing 151 = .ok (.invokestatic 183, 3) := by decide +kernel
theorem dX7_washing_154 : decode cX7_washing 154 = .ok (.ifCond .eq 14, 3) := by decide +kernel
theorem dX7_washing_157 : decode cX7_washing 157 = .ok (.aload_n 0, 1) := by decide +kernel
theorem dX7_washing_158 : decode cX7_washing 158 = .ok (.iload 7, 2) := by decide +kernel
theorem dX7_washing_160 : decode cX7_washing 160 = .ok (.bipush 6, 2) := by decide +kernel
theorem dX7_washing_162 : decode cX7_washing 162 = .ok (.invokevirtual 87, 3) := by decide +kernel
theorem dX7_washing_165 : decode cX7_washing 165 = .ok (.goto 4, 3) := by decide +kernel
theorem dX7_washing_168 : decode cX7_washing 168 = .ok (.iconst 0, 1) := by decide +kernel
theorem dX7_washing_169 : decode cX7_washing 169 = .ok (.iastore, 1) := by decide +kernel
theorem dX7_washing_170 : decode cX7_washing 170 = .ok (.iinc 7 1, 3) := by decide +kernel
theorem dX7_washing_173 : decode cX7_washing 173 = .ok (.goto (-48), 3) := by decide +kernel
theorem dX7_washing_176 : decode cX7_washing 176 = .ok (.aload_n 0, 1) := by decide +kernel
theorem dX7_washing_177 : decode cX7_washing 177 = .ok (.iload_n 1, 1) := by decide +kernel
theorem dX7_washing_178 : decode cX7_washing 178 = .ok (.iload_n 2, 1) := by decide +kernel
theorem dX7_washing_179 : decode cX7_washing 179 = .ok (.invokevirtual 178, 3) := by decide +kernel
theorem dX7_washing_182 : decode cX7_washing 182 = .ok (.ifCond .ne 10, 3) := by decide +kernel
theorem dX7_washing_185 : decode cX7_washing 185 = .ok (.iload 5, 2) := by decide +kernel
theorem dX7_washing_187 : decode cX7_washing 187 = .ok (.istore_n 3, 1) := by decide +kernel
theorem dX7_washing_188 : decode cX7_washing 188 = .ok (.iload 6, 2) := by decide +kernel
theorem dX7_washing_190 : decode cX7_washing 190 = .ok (.istore 4, 2) := by decide +kernel
theorem dX7_washing_192 : decode cX7_washing 192 = .ok (.iinc 5 1, 3) := by decide +kernel
theorem dX7_washing_195 : decode cX7_washing 195 = .ok (.goto (-142), 3) := by decide +kernel
theorem dX7_washing_198 : decode cX7_washing 198 = .ok (.iload_n 3, 1) := by decide +kernel
theorem dX7_washing_199 : decode cX7_washing 199 = .ok (.ifCond .ge 12, 3) := by decide +kernel
theorem dX7_washing_202 : decode cX7_washing 202 = .ok (.aload_n 0, 1) := by decide +kernel
theorem dX7_washing_203 : decode cX7_washing 203 = .ok (.ldc 166, 2) := by decide +kernel
theorem dX7_washing_205 : decode cX7_washing 205 = .ok (.invokevirtual 64, 3) := by decide +kernel
theorem dX7_washing_208 : decode cX7_washing 208 = .ok (.goto 4, 3) := by decide +kernel
theorem dX7_washing_211 : decode cX7_washing 211 = .ok (.iload_n 3, 1) := by decide +kernel
theorem dX7_washing_212 : decode cX7_washing 212 = .ok (.ireturn, 1) := by decide +kernel
theorem dX7_worst_0 : decode cX7_worst 0 = .ok (.iload_n 1, 1) := by decide +kernel
theorem dX7_worst_1 : decode cX7_worst 1 = .ok (.invokestatic 79, 3) := by decide +kernel
theorem dX7_worst_4 : decode cX7_worst 4 = .ok (.ifCond .eq 10, 3) := by decide +kernel
theorem dX7_worst_7 : decode cX7_worst 7 = .ok (.iload_n 2, 1) := by decide +kernel
theorem dX7_worst_8 : decode cX7_worst 8 = .ok (.invokestatic 172, 3) := by decide +kernel
theorem dX7_worst_11 : decode cX7_worst 11 = .ok (.ifCond .ne 10, 3) := by decide +kernel
theorem dX7_worst_14 : decode cX7_worst 14 = .ok (.aload_n 0, 1) := by decide +kernel
theorem dX7_worst_15 : decode cX7_worst 15 = .ok (.ldc 46, 2) := by decide +kernel
theorem dX7_worst_17 : decode cX7_worst 17 = .ok (.invokevirtual 64, 3) := by decide +kernel
theorem dX7_worst_20 : decode cX7_worst 20 = .ok (.ireturn, 1) := by decide +kernel
theorem dX7_worst_21 : decode cX7_worst 21 = .ok (.aload_n 0, 1) := by decide +kernel
theorem dX7_worst_22 : decode cX7_worst 22 = .ok (.iload_n 2, 1) := by decide +kernel
theorem dX7_worst_23 : decode cX7_worst 23 = .ok (.invokevirtual 146, 3) := by decide +kernel
theorem dX7_worst_26 : decode cX7_worst 26 = .ok (.ifCond .eq 10, 3) := by decide +kernel
theorem dX7_worst_29 : decode cX7_worst 29 = .ok (.aload_n 0, 1) := by decide +kernel
theorem dX7_worst_30 : decode cX7_worst 30 = .ok (.ldc 149, 2) := by decide +kernel
theorem dX7_worst_32 : decode cX7_worst 32 = .ok (.invokevirtual 64, 3) := by decide +kernel
theorem dX7_worst_35 : decode cX7_worst 35 = .ok (.ireturn, 1) := by decide +kernel
theorem dX7_worst_36 : decode cX7_worst 36 = .ok (.iconst (-1), 1) := by decide +kernel
theorem dX7_worst_37 : decode cX7_worst 37 = .ok (.istore_n 3, 1) := by decide +kernel
theorem dX7_worst_38 : decode cX7_worst 38 = .ok (.iconst 0, 1) := by decide +kernel
theorem dX7_worst_39 : decode cX7_worst 39 = .ok (.istore 4, 2) := by decide +kernel
theorem dX7_worst_41 : decode cX7_worst 41 = .ok (.aload_n 0, 1) := by decide +kernel
theorem dX7_worst_42 : decode cX7_worst 42 = .ok (.invokevirtual 157, 3) := by decide +kernel
theorem dX7_worst_45 : decode cX7_worst 45 = .ok (.iconst 0, 1) := by decide +kernel
theorem dX7_worst_46 : decode cX7_worst 46 = .ok (.istore 5, 2) := by decide +kernel
theorem dX7_worst_48 : decode cX7_worst 48 = .ok (.iload 5, 2) := by decide +kernel
theorem dX7_worst_50 : decode cX7_worst 50 = .ok (.aload_n 0, 1) := by decide +kernel
theorem dX7_worst_51 : decode cX7_worst 51 = .ok (.getfield 7, 3) := by decide +kernel
theorem dX7_worst_54 : decode cX7_worst 54 = .ok (.iconst 1, 1) := by decide +kernel
theorem dX7_worst_55 : decode cX7_worst 55 = .ok (.iaload, 1) := by decide +kernel
theorem dX7_worst_56 : decode cX7_worst 56 = .ok (.if_icmp .ge 48, 3) := by decide +kernel
theorem dX7_worst_59 : decode cX7_worst 59 = .ok (.aload_n 0, 1) := by decide +kernel
theorem dX7_worst_60 : decode cX7_worst 60 = .ok (.getfield 7, 3) := by decide +kernel
theorem dX7_worst_63 : decode cX7_worst 63 = .ok (.iload 5, 2) := by decide +kernel
theorem dX7_worst_65 : decode cX7_worst 65 = .ok (.bipush 6, 2) := by decide +kernel
theorem dX7_worst_67 : decode cX7_worst 67 = .ok (.invokestatic 73, 3) := by decide +kernel
theorem dX7_worst_70 : decode cX7_worst 70 = .ok (.iconst 0, 1) := by decide +kernel
theorem dX7_worst_71 : decode cX7_worst 71 = .ok (.iastore, 1) := by decide +kernel
theorem dX7_worst_72 : decode cX7_worst 72 = .ok (.aload_n 0, 1) := by decide +kernel
theorem dX7_worst_73 : decode cX7_worst 73 = .ok (.iload_n 1, 1) := by decide +kernel
theorem dX7_worst_74 : decode cX7_worst 74 = .ok (.iload_n 2, 1) := by decide +kernel
theorem dX7_worst_75 : decode cX7_worst 75 = .ok (.invokevirtual 178, 3) := by decide +kernel
theorem dX7_worst_78 : decode cX7_worst 78 = .ok (.istore 6, 2) := by decide +kernel
theorem dX7_worst_80 : decode cX7_worst 80 = .ok (.iload_n 3, 1) := by decide +kernel
theorem dX7_worst_81 : decode cX7_worst 81 = .ok (.ifCond .lt 10, 3) := by decide +kernel
theorem dX7_worst_84 : decode cX7_worst 84 = .ok (.iload 6, 2) := by decide +kernel
theorem dX7_worst_86 : decode cX7_worst 86 = .ok (.iload 4, 2) := by decide +kernel
theorem dX7_worst_88 : decode cX7_worst 88 = .ok (.if_icmp .ge 10, 3) := by decide +kernel
theorem dX7_worst_91 : decode cX7_worst 91 = .ok (.iload 5, 2) := by decide +kernel
theorem dX7_worst_93 : decode cX7_worst 93 = .ok (.istore_n 3, 1) := by decide +kernel
theorem dX7_worst_94 : decode cX7_worst 94 = .ok (.iload 6, 2) := by decide +kernel
theorem dX7_worst_96 : decode cX7_worst 96 = .ok (.istore 4, 2) := by decide +kernel
theorem dX7_worst_98 : decode cX7_worst 98 = .ok (.iinc 5 1, 3) := by decide +kernel
theorem dX7_worst_101 : decode cX7_worst 101 = .ok (.goto (-53), 3) := by decide +kernel
theorem dX7_worst_104 : decode cX7_worst 104 = .ok (.iload_n 3, 1) := by decide +kernel
theorem dX7_worst_105 : decode cX7_worst 105 = .ok (.ifCond .ge 12, 3) := by decide +kernel
theorem dX7_worst_108 : decode cX7_worst 108 = .ok (.aload_n 0, 1) := by decide +kernel
theorem dX7_worst_109 : decode cX7_worst 109 = .ok (.ldc 166, 2) := by decide +kernel
theorem dX7_worst_111 : decode cX7_worst 111 = .ok (.invokevirtual 64, 3) := by decide +kernel
theorem dX7_worst_114 : decode cX7_worst 114 = .ok (.goto 4, 3) := by decide +kernel
theorem dX7_worst_117 : decode cX7_worst 117 = .ok (.iload_n 3, 1) := by decide +kernel
theorem dX7_worst_118 : decode cX7_worst 118 = .ok (.ireturn, 1) := by decide +kernel
theorem dX7_over_0 : decode cX7_over 0 = .ok (.iload_n 1, 1) := by decide +kernel
theorem dX7_over_1 : decode cX7_over 1 = .ok (.invokestatic 58, 3) := by decide +kernel
theorem dX7_over_4 : decode cX7_over 4 = .ok (.ifCond .ne 10, 3) := by decide +kernel
theorem dX7_over_7 : decode cX7_over 7 = .ok (.aload_n 0, 1) := by decide +kernel
theorem dX7_over_8 : decode cX7_over 8 = .ok (.ldc 46, 2) := by decide +kernel
theorem dX7_over_10 : decode cX7_over 10 = .ok (.invokevirtual 64, 3) := by decide +kernel
theorem dX7_over_13 : decode cX7_over 13 = .ok (.ireturn, 1) := by decide +kernel
theorem dX7_over_14 : decode cX7_over 14 = .ok (.iconst 0, 1) := by decide +kernel
theorem dX7_over_15 : decode cX7_over 15 = .ok (.istore_n 2, 1) := by decide +kernel
theorem dX7_over_16 : decode cX7_over 16 = .ok (.iconst 0, 1) := by decide +kernel
theorem dX7_over_17 : decode cX7_over 17 = .ok (.istore_n 3, 1) := by decide +kernel
theorem dX7_over_18 : decode cX7_over 18 = .ok (.iload_n 3, 1) := by decide +kernel
theorem dX7_over_19 : decode cX7_over 19 = .ok (.aload_n 0, 1) := by decide +kernel
theorem dX7_over_20 : decode cX7_over 20 = .ok (.getfield 7, 3) := by decide +kernel
theorem dX7_over_23 : decode cX7_over 23 = .ok (.iconst 1, 1) := by decide +kernel
theorem dX7_over_24 : decode cX7_over 24 = .ok (.iaload, 1) := by decide +kernel
theorem dX7_over_25 : decode cX7_over 25 = .ok (.if_icmp .ge 36, 3) := by decide +kernel
theorem dX7_over_28 : decode cX7_over 28 = .ok (.iload_n 2, 1) := by decide +kernel
theorem dX7_over_29 : decode cX7_over 29 = .ok (.aload_n 0, 1) := by decide +kernel
theorem dX7_over_30 : decode cX7_over 30 = .ok (.getfield 7, 3) := by decide +kernel
theorem dX7_over_33 : decode cX7_over 33 = .ok (.bipush 125, 2) := by decide +kernel
theorem dX7_over_35 : decode cX7_over 35 = .ok (.bipush 36, 2) := by decide +kernel
theorem dX7_over_37 : decode cX7_over 37 = .ok (.iload_n 3, 1) := by decide +kernel
theorem dX7_over_38 : decode cX7_over 38 = .ok (.imul, 1) := by decide +kernel
theorem dX7_over_39 : decode cX7_over 39 = .ok (.iadd, 1) := by decide +kernel
theorem dX7_over_40 : decode cX7_over 40 = .ok (.iload_n 1, 1) := by decide +kernel
theorem dX7_over_41 : decode cX7_over 41 = .ok (.iadd, 1) := by decide +kernel
theorem dX7_over_42 : decode cX7_over 42 = .ok (.iaload, 1) := by decide +kernel
theorem dX7_over_43 : decode cX7_over 43 = .ok (.ifCond .le 9, 3) := by decide +kernel
theorem dX7_over_46 : decode cX7_over 46 = .ok (.iconst 1, 1) := by decide +kernel
theorem dX7_over_47 : decode cX7_over 47 = .ok (.iload_n 3, 1) := by decide +kernel
theorem dX7_over_48 : decode cX7_over 48 = .ok (.ishl, 1) := by decide +kernel
theorem dX7_over_49 : decode cX7_over 49 = .ok (.goto 4, 3) := by decide +kernel
theorem dX7_over_52 : decode cX7_over 52 = .ok (.iconst 0, 1) := by decide +kernel
theorem dX7_over_53 : decode cX7_over 53 = .ok (.ior, 1) := by decide +kernel
theorem dX7_over_54 : decode cX7_over 54 = .ok (.istore_n 2, 1) := by decide +kernel
theorem dX7_over_55 : decode cX7_over 55 = .ok (.iinc 3 1, 3) := by decide +kernel
theorem dX7_over_58 : decode cX7_over 58 = .ok (.goto (-40), 3) := by decide +kernel
theorem dX7_over_61 : decode cX7_over 61 = .ok (.iload_n 2, 1) := by decide +kernel
theorem dX7_over_62 : decode cX7_over 62 = .ok (.ireturn, 1) := by decide +kernel
theorem dX7_isUnder_0 : decode cX7_isUnder 0 = .ok (.aload_n 0, 1) := by decide +kernel
theorem dX7_isUnder_1 : decode cX7_isUnder 1 = .ok (.iload_n 1, 1) := by decide +kernel
theorem dX7_isUnder_2 : decode cX7_isUnder 2 = .ok (.iconst 0, 1) := by decide +kernel
theorem dX7_isUnder_3 : decode cX7_isUnder 3 = .ok (.invokevirtual 87, 3) := by decide +kernel
theorem dX7_isUnder_6 : decode cX7_isUnder 6 = .ok (.istore_n 3, 1) := by decide +kernel
theorem dX7_isUnder_7 : decode cX7_isUnder 7 = .ok (.iload_n 2, 1) := by decide +kernel
theorem dX7_isUnder_8 : decode cX7_isUnder 8 = .ok (.ifCond .eq 39, 3) := by decide +kernel
theorem dX7_isUnder_11 : decode cX7_isUnder 11 = .ok (.iload_n 3, 1) := by decide +kernel
theorem dX7_isUnder_12 : decode cX7_isUnder 12 = .ok (.iload_n 2, 1) := by decide +kernel
theorem dX7_isUnder_13 : decode cX7_isUnder 13 = .ok (.if_icmp .eq 34, 3) := by decide +kernel
theorem dX7_isUnder_16 : decode cX7_isUnder 16 = .ok (.iload_n 2, 1) := by decide +kernel
theorem dX7_isUnder_17 : decode cX7_isUnder 17 = .ok (.iconst 1, 1) := by decide +kernel
theorem dX7_isUnder_18 : decode cX7_isUnder 18 = .ok (.if_icmp .ne 8, 3) := by decide +kernel
theorem dX7_isUnder_21 : decode cX7_isUnder 21 = .ok (.iload_n 3, 1) := by decide +kernel
theorem dX7_isUnder_22 : decode cX7_isUnder 22 = .ok (.iconst 4, 1) := by decide +kernel
theorem dX7_isUnder_23 : decode cX7_isUnder 23 = .ok (.if_icmp .eq 24, 3) := by decide +kernel
theorem dX7_isUnder_26 : decode cX7_isUnder 26 = .ok (.iload_n 2, 1) := by decide +kernel
theorem dX7_isUnder_27 : decode cX7_isUnder 27 = .ok (.iconst 2, 1) := by decide +kernel
theorem dX7_isUnder_28 : decode cX7_isUnder 28 = .ok (.if_icmp .ne 8, 3) := by decide +kernel
theorem dX7_isUnder_31 : decode cX7_isUnder 31 = .ok (.iload_n 3, 1) := by decide +kernel
theorem dX7_isUnder_32 : decode cX7_isUnder 32 = .ok (.iconst 5, 1) := by decide +kernel
theorem dX7_isUnder_33 : decode cX7_isUnder 33 = .ok (.if_icmp .eq 14, 3) := by decide +kernel
theorem dX7_isUnder_36 : decode cX7_isUnder 36 = .ok (.iload_n 2, 1) := by decide +kernel
theorem dX7_isUnder_37 : decode cX7_isUnder 37 = .ok (.iconst 3, 1) := by decide +kernel
theorem dX7_isUnder_38 : decode cX7_isUnder 38 = .ok (.if_icmp .ne 13, 3) := by decide +kernel
theorem dX7_isUnder_41 : decode cX7_isUnder 41 = .ok (.iload_n 3, 1) := by decide +kernel
theorem dX7_isUnder_42 : decode cX7_isUnder 42 = .ok (.bipush 6, 2) := by decide +kernel
theorem dX7_isUnder_44 : decode cX7_isUnder 44 = .ok (.if_icmp .ne 7, 3) := by decide +kernel
theorem dX7_isUnder_47 : decode cX7_isUnder 47 = .ok (.iconst 1, 1) := by decide +kernel
theorem dX7_isUnder_48 : decode cX7_isUnder 48 = .ok (.goto 4, 3) := by decide +kernel
theorem dX7_isUnder_51 : decode cX7_isUnder 51 = .ok (.iconst 0, 1) := by decide +kernel
theorem dX7_isUnder_52 : decode cX7_isUnder 52 = .ok (.ireturn, 1) := by decide +kernel
theorem dX7_canHave_0 : decode cX7_canHave 0 = .ok (.iload_n 1, 1) := by decide +kernel
theorem dX7_canHave_1 : decode cX7_canHave 1 = .ok (.i2l, 1) := by decide +kernel
theorem dX7_canHave_2 : decode cX7_canHave 2 = .ok (.lconst 0, 1) := by decide +kernel
theorem dX7_canHave_3 : decode cX7_canHave 3 = .ok (.ldc2_w 77, 3) := by decide +kernel
theorem dX7_canHave_6 : decode cX7_canHave 6 = .ok (.invokestatic 49, 3) := by decide +kernel
theorem dX7_canHave_9 : decode cX7_canHave 9 = .ok (.ifCond .eq 30, 3) := by decide +kernel
theorem dX7_canHave_12 : decode cX7_canHave 12 = .ok (.iload_n 2, 1) := by decide +kernel
theorem dX7_canHave_13 : decode cX7_canHave 13 = .ok (.invokestatic 68, 3) := by decide +kernel
theorem dX7_canHave_16 : decode cX7_canHave 16 = .ok (.ifCond .eq 23, 3) := by decide +kernel
theorem dX7_canHave_19 : decode cX7_canHave 19 = .ok (.iload_n 3, 1) := by decide +kernel
theorem dX7_canHave_20 : decode cX7_canHave 20 = .ok (.invokestatic 58, 3) := by decide +kernel
theorem dX7_canHave_23 : decode cX7_canHave 23 = .ok (.ifCond .eq 16, 3) := by decide +kernel
theorem dX7_canHave_26 : decode cX7_canHave 26 = .ok (.iload 4, 2) := by decide +kernel
theorem dX7_canHave_28 : decode cX7_canHave 28 = .ok (.i2l, 1) := by decide +kernel
theorem dX7_canHave_29 : decode cX7_canHave 29 = .ok (.lconst 1, 1) := by decide +kernel
theorem dX7_canHave_30 : decode cX7_canHave 30 = .ok (.ldc2_w 181, 3) := by decide +kernel
theorem dX7_canHave_33 : decode cX7_canHave 33 = .ok (.invokestatic 49, 3) := by decide +kernel
theorem dX7_canHave_36 : decode cX7_canHave 36 = .ok (.ifCond .ne 10, 3) := by decide +kernel
theorem dX7_canHave_39 : decode cX7_canHave 39 = .ok (.aload_n 0, 1) := by decide +kernel
theorem dX7_canHave_40 : decode cX7_canHave 40 = .ok (.ldc 46, 2) := by decide +kernel
theorem dX7_canHave_42 : decode cX7_canHave 42 = .ok (.invokevirtual 64, 3) := by decide +kernel
theorem dX7_canHave_45 : decode cX7_canHave 45 = .ok (.ireturn, 1) := by decide +kernel
theorem dX7_canHave_46 : decode cX7_canHave 46 = .ok (.iconst 0, 1) := by decide +kernel
theorem dX7_canHave_47 : decode cX7_canHave 47 = .ok (.istore 5, 2) := by decide +kernel
theorem dX7_canHave_49 : decode cX7_canHave 49 = .ok (.aload_n 0, 1) := by decide +kernel
theorem dX7_canHave_50 : decode cX7_canHave 50 = .ok (.invokevirtual 157, 3) := by decide +kernel
theorem dX7_canHave_53 : decode cX7_canHave 53 = .ok (.iconst 0, 1) := by decide +kernel
theorem dX7_canHave_54 : decode cX7_canHave 54 = .ok (.istore 6, 2) := by decide +kernel
theorem dX7_canHave_56 : decode cX7_canHave 56 = .ok (.iload 6, 2) := by decide +kernel
theorem dX7_canHave_58 : decode cX7_canHave 58 = .ok (.aload_n 0, 1) := by decide +kernel
theorem dX7_canHave_59 : decode cX7_canHave 59 = .ok (.getfield 7, 3) := by decide +kernel
theorem dX7_canHave_62 : decode cX7_canHave 62 = .ok (.iconst 1, 1) := by decide +kernel
theorem dX7_canHave_63 : decode cX7_canHave 63 = .ok (.iaload, 1) := by decide +kernel
theorem dX7_canHave_64 : decode cX7_canHave 64 = .ok (.if_icmp .ge 164, 3) := by decide +kernel
theorem dX7_canHave_67 : decode cX7_canHave 67 = .ok (.aload_n 0, 1) := by decide +kernel
theorem dX7_canHave_68 : decode cX7_canHave 68 = .ok (.iload 6, 2) := by decide +kernel
theorem dX7_canHave_70 : decode cX7_canHave 70 = .ok (.iload_n 1, 1) := by decide +kernel
theorem dX7_canHave_71 : decode cX7_canHave 71 = .ok (.invokevirtual 186, 3) := by decide +kernel
theorem dX7_canHave_74 : decode cX7_canHave 74 = .ok (.ifCond .eq 148, 3) := by decide +kernel
theorem dX7_canHave_77 : decode cX7_canHave 77 = .ok (.iconst 0, 1) := by decide +kernel
theorem dX7_canHave_78 : decode cX7_canHave 78 = .ok (.istore 7, 2) := by decide +kernel
theorem dX7_canHave_80 : decode cX7_canHave 80 = .ok (.iload 7, 2) := by decide +kernel
theorem dX7_canHave_82 : decode cX7_canHave 82 = .ok (.bipush 36, 2) := by decide +kernel
theorem dX7_canHave_84 : decode cX7_canHave 84 = .ok (.if_icmp .ge 26, 3) := by decide +kernel
theorem dX7_canHave_87 : decode cX7_canHave 87 = .ok (.aload_n 0, 1) := by decide +kernel
theorem dX7_canHave_88 : decode cX7_canHave 88 = .ok (.getfield 7, 3) := by decide +kernel
theorem dX7_canHave_91 : decode cX7_canHave 91 = .ok (.bipush 125, 2) := by decide +kernel
theorem dX7_canHave_93 : decode cX7_canHave 93 = .ok (.bipush 36, 2) := by decide +kernel
theorem dX7_canHave_95 : decode cX7_canHave 95 = .ok (.iload 6, 2) := by decide +kernel
theorem dX7_canHave_97 : decode cX7_canHave 97 = .ok (.imul, 1) := by decide +kernel
theorem dX7_canHave_98 : decode cX7_canHave 98 = .ok (.iadd, 1) := by decide +kernel
theorem dX7_canHave_99 : decode cX7_canHave 99 = .ok (.iload 7, 2) := by decide +kernel
theorem dX7_canHave_101 : decode cX7_canHave 101 = .ok (.iadd, 1) := by decide +kernel
theorem dX7_canHave_102 : decode cX7_canHave 102 = .ok (.iconst 0, 1) := by decide +kernel
theorem dX7_canHave_103 : decode cX7_canHave 103 = .ok (.iastore, 1) := by decide +kernel
theorem dX7_canHave_104 : decode cX7_canHave 104 = .ok (.iinc 7 1, 3) := by decide +kernel
theorem dX7_canHave_107 : decode cX7_canHave 107 = .ok (.goto (-27), 3) := by decide +kernel
theorem dX7_canHave_110 : decode cX7_canHave 110 = .ok (.iconst 0, 1) := by decide +kernel
theorem dX7_canHave_111 : decode cX7_canHave 111 = .ok (.istore 7, 2) := by decide +kernel
theorem dX7_canHave_113 : decode cX7_canHave 113 = .ok (.iload 7, 2) := by decide +kernel
theorem dX7_canHave_115 : decode cX7_canHave 115 = .ok (.iload 4, 2) := by decide +kernel
theorem dX7_canHave_117 : decode cX7_canHave 117 = .ok (.if_icmp .ge 74, 3) := by decide +kernel
theorem dX7_canHave_120 : decode cX7_canHave 120 = .ok (.iload_n 2, 1) := by decide +kernel
theorem dX7_canHave_121 : decode cX7_canHave 121 = .ok (.iload 7, 2) := by decide +kernel
theorem dX7_canHave_123 : decode cX7_canHave 123 = .ok (.iadd, 1) := by decide +kernel
theorem dX7_canHave_124 : decode cX7_canHave 124 = .ok (.bipush 24, 2) := by decide +kernel
theorem dX7_canHave_126 : decode cX7_canHave 126 = .ok (.irem, 1) := by decide +kernel
theorem dX7_canHave_127 : decode cX7_canHave 127 = .ok (.istore 8, 2) := by decide +kernel
theorem dX7_canHave_129 : decode cX7_canHave 129 = .ok (.aload_n 0, 1) := by decide +kernel
theorem dX7_canHave_130 : decode cX7_canHave 130 = .ok (.getfield 7, 3) := by decide +kernel
theorem dX7_canHave_133 : decode cX7_canHave 133 = .ok (.bipush 125, 2) := by decide +kernel
theorem dX7_canHave_135 : decode cX7_canHave 135 = .ok (.bipush 36, 2) := by decide +kernel
theorem dX7_canHave_137 : decode cX7_canHave 137 = .ok (.iload 6, 2) := by decide +kernel
theorem dX7_canHave_139 : decode cX7_canHave 139 = .ok (.imul, 1) := by decide +kernel
theorem dX7_canHave_140 : decode cX7_canHave 140 = .ok (.iadd, 1) := by decide +kernel
theorem dX7_canHave_141 : decode cX7_canHave 141 = .ok (.aload_n 0, 1) := by decide +kernel
theorem dX7_canHave_142 : decode cX7_canHave 142 = .ok (.iload 6, 2) := by decide +kernel
theorem dX7_canHave_144 : decode cX7_canHave 144 = .ok (.iconst 2, 1) := by decide +kernel
theorem dX7_canHave_145 : decode cX7_canHave 145 = .ok (.invokevirtual 87, 3) := by decide +kernel
theorem dX7_canHave_148 : decode cX7_canHave 148 = .ok (.iadd, 1) := by decide +kernel
theorem dX7_canHave_149 : decode cX7_canHave 149 = .ok (.dup2, 1) := by decide +kernel
theorem dX7_canHave_150 : decode cX7_canHave 150 = .ok (.iaload, 1) := by decide +kernel
theorem dX7_canHave_151 : decode cX7_canHave 151 = .ok (.aload_n 0, 1) := by decide +kernel
theorem dX7_canHave_152 : decode cX7_canHave 152 = .ok (.iload 6, 2) := by decide +kernel
theorem dX7_canHave_154 : decode cX7_canHave 154 = .ok (.iload 8, 2) := by decide +kernel
theorem dX7_canHave_156 : decode cX7_canHave 156 = .ok (.invokevirtual 94, 3) := by decide +kernel
theorem dX7_canHave_159 : decode cX7_canHave 159 = .ok (.iadd, 1) := by decide +kernel
theorem dX7_canHave_160 : decode cX7_canHave 160 = .ok (.iastore, 1) := by decide +kernel
theorem dX7_canHave_161 : decode cX7_canHave 161 = .ok (.aload_n 0, 1) := by decide +kernel
theorem dX7_canHave_162 : decode cX7_canHave 162 = .ok (.iload 6, 2) := by decide +kernel
theorem dX7_canHave_164 : decode cX7_canHave 164 = .ok (.aload_n 0, 1) := by decide +kernel
theorem dX7_canHave_165 : decode cX7_canHave 165 = .ok (.getfield 7, 3) := by decide +kernel
theorem dX7_canHave_168 : decode cX7_canHave 168 = .ok (.bipush 39, 2) := by decide +kernel
theorem dX7_canHave_170 : decode cX7_canHave 170 = .ok (.iload 8, 2) := by decide +kernel
theorem dX7_canHave_172 : decode cX7_canHave 172 = .ok (.iadd, 1) := by decide +kernel
theorem dX7_canHave_173 : decode cX7_canHave 173 = .ok (.iaload, 1) := by decide +kernel
theorem dX7_canHave_174 : decode cX7_canHave 174 = .ok (.invokevirtual 133, 3) := by decide +kernel
theorem dX7_canHave_177 : decode cX7_canHave 177 = .ok (.aload_n 0, 1) := by decide +kernel
theorem dX7_canHave_178 : decode cX7_canHave 178 = .ok (.iload 6, 2) := by decide +kernel
theorem dX7_canHave_180 : decode cX7_canHave 180 = .ok (.invokevirtual 137, 3) := by decide +kernel
theorem dX7_canHave_183 : decode cX7_canHave 183 = .ok (.istore 9, 2) := by decide +kernel
theorem dX7_canHave_185 : decode cX7_canHave 185 = .ok (.iinc 7 1, 3) := by decide +kernel
theorem dX7_canHave_188 : decode cX7_canHave 188 = .ok (.goto (-75), 3) := by decide +kernel
theorem dX7_canHave_191 : decode cX7_canHave 191 = .ok (.iload 5, 2) := by decide +kernel
theorem dX7_canHave_193 : decode cX7_canHave 193 = .ok (.aload_n 0, 1) := by decide +kernel
theorem dX7_canHave_194 : decode cX7_canHave 194 = .ok (.getfield 7, 3) := by decide +kernel
theorem dX7_canHave_197 : decode cX7_canHave 197 = .ok (.bipush 125, 2) := by decide +kernel
theorem dX7_canHave_199 : decode cX7_canHave 199 = .ok (.bipush 36, 2) := by decide +kernel
theorem dX7_canHave_201 : decode cX7_canHave 201 = .ok (.iload 6, 2) := by decide +kernel
theorem dX7_canHave_203 : decode cX7_canHave 203 = .ok (.imul, 1) := by decide +kernel
theorem dX7_canHave_204 : decode cX7_canHave 204 = .ok (.iadd, 1) := by decide +kernel
theorem dX7_canHave_205 : decode cX7_canHave 205 = .ok (.iload_n 3, 1) := by decide +kernel
theorem dX7_canHave_206 : decode cX7_canHave 206 = .ok (.iadd, 1) := by decide +kernel
theorem dX7_canHave_207 : decode cX7_canHave 207 = .ok (.iaload, 1) := by decide +kernel
theorem dX7_canHave_208 : decode cX7_canHave 208 = .ok (.ifCond .le 10, 3) := by decide +kernel
theorem dX7_canHave_211 : decode cX7_canHave 211 = .ok (.iconst 1, 1) := by decide +kernel
theorem dX7_canHave_212 : decode cX7_canHave 212 = .ok (.iload 6, 2) := by decide +kernel
theorem dX7_canHave_214 : decode cX7_canHave 214 = .ok (.ishl, 1) := by decide +kernel
theorem dX7_canHave_215 : decode cX7_canHave 215 = .ok (.goto 4, 3) := by decide +kernel
theorem dX7_canHave_218 : decode cX7_canHave 218 = .ok (.iconst 0, 1) := by decide +kernel
theorem dX7_canHave_219 : decode cX7_canHave 219 = .ok (.ior, 1) := by decide +kernel
theorem dX7_canHave_220 : decode cX7_canHave 220 = .ok (.istore 5, 2) := by decide +kernel
theorem dX7_canHave_222 : decode cX7_canHave 222 = .ok (.iinc 6 1, 3) := by decide +kernel
theorem dX7_canHave_225 : decode cX7_canHave 225 = .ok (.goto (-169), 3) := by decide +kernel
theorem dX7_canHave_228 : decode cX7_canHave 228 = .ok (.aload_n 0, 1) := by decide +kernel
theorem dX7_canHave_229 : decode cX7_canHave 229 = .ok (.invokevirtual 163, 3) := by decide +kernel
theorem dX7_canHave_232 : decode cX7_canHave 232 = .ok (.iload 5, 2) := by decide +kernel
theorem dX7_canHave_234 : decode cX7_canHave 234 = .ok (.ireturn, 1) := by decide +kernel
theorem dX7_clocks_0 : decode cX7_clocks 0 = .ok (.aload_n 0, 1) := by decide +kernel
theorem dX7_clocks_1 : decode cX7_clocks 1 = .ok (.iload_n 1, 1) := by decide +kernel
theorem dX7_clocks_2 : decode cX7_clocks 2 = .ok (.invokevirtual 97, 3) := by decide +kernel
theorem dX7_clocks_5 : decode cX7_clocks 5 = .ok (.ifCond .eq 22, 3) := by decide +kernel
theorem dX7_clocks_8 : decode cX7_clocks 8 = .ok (.iload_n 2, 1) := by decide +kernel
theorem dX7_clocks_9 : decode cX7_clocks 9 = .ok (.invokestatic 58, 3) := by decide +kernel
theorem dX7_clocks_12 : decode cX7_clocks 12 = .ok (.ifCond .eq 15, 3) := by decide +kernel
theorem dX7_clocks_15 : decode cX7_clocks 15 = .ok (.iload_n 3, 1) := by decide +kernel
theorem dX7_clocks_16 : decode cX7_clocks 16 = .ok (.i2l, 1) := by decide +kernel
theorem dX7_clocks_17 : decode cX7_clocks 17 = .ok (.lconst 1, 1) := by decide +kernel
theorem dX7_clocks_18 : decode cX7_clocks 18 = .ok (.ldc2_w 181, 3) := by decide +kernel
theorem dX7_clocks_21 : decode cX7_clocks 21 = .ok (.invokestatic 49, 3) := by decide +kernel
theorem dX7_clocks_24 : decode cX7_clocks 24 = .ok (.ifCond .ne 10, 3) := by decide +kernel
theorem dX7_clocks_27 : decode cX7_clocks 27 = .ok (.aload_n 0, 1) := by decide +kernel
theorem dX7_clocks_28 : decode cX7_clocks 28 = .ok (.ldc 46, 2) := by decide +kernel
theorem dX7_clocks_30 : decode cX7_clocks 30 = .ok (.invokevirtual 64, 3) := by decide +kernel
theorem dX7_clocks_33 : decode cX7_clocks 33 = .ok (.ireturn, 1) := by decide +kernel
theorem dX7_clocks_34 : decode cX7_clocks 34 = .ok (.iconst 0, 1) := by decide +kernel
theorem dX7_clocks_35 : decode cX7_clocks 35 = .ok (.istore 4, 2) := by decide +kernel
theorem dX7_clocks_37 : decode cX7_clocks 37 = .ok (.iconst 0, 1) := by decide +kernel
theorem dX7_clocks_38 : decode cX7_clocks 38 = .ok (.istore 5, 2) := by decide +kernel
theorem dX7_clocks_40 : decode cX7_clocks 40 = .ok (.iload 5, 2) := by decide +kernel
theorem dX7_clocks_42 : decode cX7_clocks 42 = .ok (.bipush 24, 2) := by decide +kernel
theorem dX7_clocks_44 : decode cX7_clocks 44 = .ok (.if_icmp .ge 92, 3) := by decide +kernel
theorem dX7_clocks_47 : decode cX7_clocks 47 = .ok (.aload_n 0, 1) := by decide +kernel
theorem dX7_clocks_48 : decode cX7_clocks 48 = .ok (.iload_n 1, 1) := by decide +kernel
theorem dX7_clocks_49 : decode cX7_clocks 49 = .ok (.iconst 2, 1) := by decide +kernel
theorem dX7_clocks_50 : decode cX7_clocks 50 = .ok (.invokevirtual 87, 3) := by decide +kernel
theorem dX7_clocks_53 : decode cX7_clocks 53 = .ok (.istore 6, 2) := by decide +kernel
theorem dX7_clocks_55 : decode cX7_clocks 55 = .ok (.iconst 0, 1) := by decide +kernel
theorem dX7_clocks_56 : decode cX7_clocks 56 = .ok (.istore 7, 2) := by decide +kernel
theorem dX7_clocks_58 : decode cX7_clocks 58 = .ok (.iload 7, 2) := by decide +kernel
theorem dX7_clocks_60 : decode cX7_clocks 60 = .ok (.iload_n 3, 1) := by decide +kernel
theorem dX7_clocks_61 : decode cX7_clocks 61 = .ok (.if_icmp .ge 50, 3) := by decide +kernel
theorem dX7_clocks_64 : decode cX7_clocks 64 = .ok (.iload 6, 2) := by decide +kernel
theorem dX7_clocks_66 : decode cX7_clocks 66 = .ok (.ifCond .lt 45, 3) := by decide +kernel
theorem dX7_clocks_69 : decode cX7_clocks 69 = .ok (.aload_n 0, 1) := by decide +kernel
theorem dX7_clocks_70 : decode cX7_clocks 70 = .ok (.getfield 7, 3) := by decide +kernel
theorem dX7_clocks_73 : decode cX7_clocks 73 = .ok (.bipush 39, 2) := by decide +kernel
theorem dX7_clocks_75 : decode cX7_clocks 75 = .ok (.iload 5, 2) := by decide +kernel
theorem dX7_clocks_77 : decode cX7_clocks 77 = .ok (.iload 7, 2) := by decide +kernel
theorem dX7_clocks_79 : decode cX7_clocks 79 = .ok (.iadd, 1) := by decide +kernel
theorem dX7_clocks_80 : decode cX7_clocks 80 = .ok (.bipush 24, 2) := by decide +kernel
theorem dX7_clocks_82 : decode cX7_clocks 82 = .ok (.irem, 1) := by decide +kernel
theorem dX7_clocks_83 : decode cX7_clocks 83 = .ok (.iadd, 1) := by decide +kernel
theorem dX7_clocks_84 : decode cX7_clocks 84 = .ok (.iaload, 1) := by decide +kernel
theorem dX7_clocks_85 : decode cX7_clocks 85 = .ok (.istore 8, 2) := by decide +kernel
theorem dX7_clocks_87 : decode cX7_clocks 87 = .ok (.iload 8, 2) := by decide +kernel
theorem dX7_clocks_89 : decode cX7_clocks 89 = .ok (.ifCond .ne 7, 3) := by decide +kernel
theorem dX7_clocks_92 : decode cX7_clocks 92 = .ok (.iconst (-1), 1) := by decide +kernel
theorem dX7_clocks_93 : decode cX7_clocks 93 = .ok (.goto 10, 3) := by decide +kernel
theorem dX7_clocks_96 : decode cX7_clocks 96 = .ok (.iload 6, 2) := by decide +kernel
theorem dX7_clocks_98 : decode cX7_clocks 98 = .ok (.iload 8, 2) := by decide +kernel
theorem dX7_clocks_100 : decode cX7_clocks 100 = .ok (.invokestatic 119, 3) := by decide +kernel
theorem dX7_clocks_103 : decode cX7_clocks 103 = .ok (.istore 6, 2) := by decide +kernel
theorem dX7_clocks_105 : decode cX7_clocks 105 = .ok (.iinc 7 1, 3) := by decide +kernel
theorem dX7_clocks_108 : decode cX7_clocks 108 = .ok (.goto (-50), 3) := by decide +kernel
theorem dX7_clocks_111 : decode cX7_clocks 111 = .ok (.iload 4, 2) := by decide +kernel
theorem dX7_clocks_113 : decode cX7_clocks 113 = .ok (.iload 6, 2) := by decide +kernel
theorem dX7_clocks_115 : decode cX7_clocks 115 = .ok (.iload_n 2, 1) := by decide +kernel
theorem dX7_clocks_116 : decode cX7_clocks 116 = .ok (.if_icmp .ne 10, 3) := by decide +kernel
theorem dX7_clocks_119 : decode cX7_clocks 119 = .ok (.iconst 1, 1) := by decide +kernel
theorem dX7_clocks_120 : decode cX7_clocks 120 = .ok (.iload 5, 2) := by decide +kernel
theorem dX7_clocks_122 : decode cX7_clocks 122 = .ok (.ishl, 1) := by decide +kernel
theorem dX7_clocks_123 : decode cX7_clocks 123 = .ok (.goto 4, 3) := by decide +kernel
theorem dX7_clocks_126 : decode cX7_clocks 126 = .ok (.iconst 0, 1) := by decide +kernel
theorem dX7_clocks_127 : decode cX7_clocks 127 = .ok (.ior, 1) := by decide +kernel
theorem dX7_clocks_128 : decode cX7_clocks 128 = .ok (.istore 4, 2) := by decide +kernel
theorem dX7_clocks_130 : decode cX7_clocks 130 = .ok (.iinc 5 1, 3) := by decide +kernel
theorem dX7_clocks_133 : decode cX7_clocks 133 = .ok (.goto (-93), 3) := by decide +kernel
theorem dX7_clocks_136 : decode cX7_clocks 136 = .ok (.iload 4, 2) := by decide +kernel
theorem dX7_clocks_138 : decode cX7_clocks 138 = .ok (.ireturn, 1) := by decide +kernel
theorem dX7_weather_0 : decode cX7_weather 0 = .ok (.iload_n 1, 1) := by decide +kernel
theorem dX7_weather_1 : decode cX7_weather 1 = .ok (.i2l, 1) := by decide +kernel
theorem dX7_weather_2 : decode cX7_weather 2 = .ok (.lconst 1, 1) := by decide +kernel
theorem dX7_weather_3 : decode cX7_weather 3 = .ok (.ldc2_w 167, 3) := by decide +kernel
theorem dX7_weather_6 : decode cX7_weather 6 = .ok (.invokestatic 49, 3) := by decide +kernel
theorem dX7_weather_9 : decode cX7_weather 9 = .ok (.ifCond .ne 10, 3) := by decide +kernel
theorem dX7_weather_12 : decode cX7_weather 12 = .ok (.aload_n 0, 1) := by decide +kernel
theorem dX7_weather_13 : decode cX7_weather 13 = .ok (.ldc 46, 2) := by decide +kernel
theorem dX7_weather_15 : decode cX7_weather 15 = .ok (.invokevirtual 64, 3) := by decide +kernel
theorem dX7_weather_18 : decode cX7_weather 18 = .ok (.ireturn, 1) := by decide +kernel
theorem dX7_weather_19 : decode cX7_weather 19 = .ok (.iconst 0, 1) := by decide +kernel
theorem dX7_weather_20 : decode cX7_weather 20 = .ok (.istore_n 2, 1) := by decide +kernel
theorem dX7_weather_21 : decode cX7_weather 21 = .ok (.iload_n 2, 1) := by decide +kernel
theorem dX7_weather_22 : decode cX7_weather 22 = .ok (.iload_n 1, 1) := by decide +kernel
theorem dX7_weather_23 : decode cX7_weather 23 = .ok (.if_icmp .ge 32, 3) := by decide +kernel
theorem dX7_weather_26 : decode cX7_weather 26 = .ok (.aload_n 0, 1) := by decide +kernel
theorem dX7_weather_27 : decode cX7_weather 27 = .ok (.invokevirtual 189, 3) := by decide +kernel
theorem dX7_weather_30 : decode cX7_weather 30 = .ok (.bipush 24, 2) := by decide +kernel
theorem dX7_weather_32 : decode cX7_weather 32 = .ok (.irem, 1) := by decide +kernel
theorem dX7_weather_33 : decode cX7_weather 33 = .ok (.istore_n 3, 1) := by decide +kernel
theorem dX7_weather_34 : decode cX7_weather 34 = .ok (.aload_n 0, 1) := by decide +kernel
theorem dX7_weather_35 : decode cX7_weather 35 = .ok (.getfield 7, 3) := by decide +kernel
theorem dX7_weather_38 : decode cX7_weather 38 = .ok (.bipush 39, 2) := by decide +kernel
theorem dX7_weather_40 : decode cX7_weather 40 = .ok (.iload_n 3, 1) := by decide +kernel
theorem dX7_weather_41 : decode cX7_weather 41 = .ok (.iadd, 1) := by decide +kernel
theorem dX7_weather_42 : decode cX7_weather 42 = .ok (.aload_n 0, 1) := by decide +kernel
theorem dX7_weather_43 : decode cX7_weather 43 = .ok (.invokevirtual 189, 3) := by decide +kernel
theorem dX7_weather_46 : decode cX7_weather 46 = .ok (.iconst 5, 1) := by decide +kernel
theorem dX7_weather_47 : decode cX7_weather 47 = .ok (.irem, 1) := by decide +kernel
theorem dX7_weather_48 : decode cX7_weather 48 = .ok (.iastore, 1) := by decide +kernel
theorem dX7_weather_49 : decode cX7_weather 49 = .ok (.iinc 2 1, 3) := by decide +kernel
theorem dX7_weather_52 : decode cX7_weather 52 = .ok (.goto (-31), 3) := by decide +kernel
theorem dX7_weather_55 : decode cX7_weather 55 = .ok (.iconst 0, 1) := by decide +kernel
theorem dX7_weather_56 : decode cX7_weather 56 = .ok (.istore_n 2, 1) := by decide +kernel
theorem dX7_weather_57 : decode cX7_weather 57 = .ok (.iconst 0, 1) := by decide +kernel
theorem dX7_weather_58 : decode cX7_weather 58 = .ok (.istore_n 3, 1) := by decide +kernel
theorem dX7_weather_59 : decode cX7_weather 59 = .ok (.iload_n 3, 1) := by decide +kernel
theorem dX7_weather_60 : decode cX7_weather 60 = .ok (.bipush 24, 2) := by decide +kernel
theorem dX7_weather_62 : decode cX7_weather 62 = .ok (.if_icmp .ge 29, 3) := by decide +kernel
theorem dX7_weather_65 : decode cX7_weather 65 = .ok (.iload_n 2, 1) := by decide +kernel
theorem dX7_weather_66 : decode cX7_weather 66 = .ok (.aload_n 0, 1) := by decide +kernel
theorem dX7_weather_67 : decode cX7_weather 67 = .ok (.getfield 7, 3) := by decide +kernel
theorem dX7_weather_70 : decode cX7_weather 70 = .ok (.bipush 39, 2) := by decide +kernel
theorem dX7_weather_72 : decode cX7_weather 72 = .ok (.iload_n 3, 1) := by decide +kernel
theorem dX7_weather_73 : decode cX7_weather 73 = .ok (.iadd, 1) := by decide +kernel
theorem dX7_weather_74 : decode cX7_weather 74 = .ok (.iaload, 1) := by decide +kernel
theorem dX7_weather_75 : decode cX7_weather 75 = .ok (.ifCond .ne 7, 3) := by decide +kernel
theorem dX7_weather_78 : decode cX7_weather 78 = .ok (.iconst 1, 1) := by decide +kernel
theorem dX7_weather_79 : decode cX7_weather 79 = .ok (.goto 4, 3) := by decide +kernel
theorem dX7_weather_82 : decode cX7_weather 82 = .ok (.iconst 0, 1) := by decide +kernel
theorem dX7_weather_83 : decode cX7_weather 83 = .ok (.iadd, 1) := by decide +kernel
theorem dX7_weather_84 : decode cX7_weather 84 = .ok (.istore_n 2, 1) := by decide +kernel
theorem dX7_weather_85 : decode cX7_weather 85 = .ok (.iinc 3 1, 3) := by decide +kernel
theorem dX7_weather_88 : decode cX7_weather 88 = .ok (.goto (-29), 3) := by decide +kernel
theorem dX7_weather_91 : decode cX7_weather 91 = .ok (.iload_n 2, 1) := by decide +kernel
theorem dX7_weather_92 : decode cX7_weather 92 = .ok (.ireturn, 1) := by decide +kernel
theorem dX7_seed_0 : decode cX7_seed 0 = .ok (.aload_n 0, 1) := by decide +kernel
theorem dX7_seed_1 : decode cX7_seed 1 = .ok (.getfield 7, 3) := by decide +kernel
theorem dX7_seed_4 : decode cX7_seed 4 = .ok (.iconst 2, 1) := by decide +kernel
theorem dX7_seed_5 : decode cX7_seed 5 = .ok (.iaload, 1) := by decide +kernel
theorem dX7_seed_6 : decode cX7_seed 6 = .ok (.istore_n 2, 1) := by decide +kernel
theorem dX7_seed_7 : decode cX7_seed 7 = .ok (.aload_n 0, 1) := by decide +kernel
theorem dX7_seed_8 : decode cX7_seed 8 = .ok (.getfield 7, 3) := by decide +kernel
theorem dX7_seed_11 : decode cX7_seed 11 = .ok (.iconst 2, 1) := by decide +kernel
theorem dX7_seed_12 : decode cX7_seed 12 = .ok (.iload_n 1, 1) := by decide +kernel
theorem dX7_seed_13 : decode cX7_seed 13 = .ok (.iastore, 1) := by decide +kernel
theorem dX7_seed_14 : decode cX7_seed 14 = .ok (.iload_n 2, 1) := by decide +kernel
theorem dX7_seed_15 : decode cX7_seed 15 = .ok (.ireturn, 1) := by decide +kernel
theorem dX7_feed_0 : decode cX7_feed 0 = .ok (.iload_n 2, 1) := by decide +kernel
theorem dX7_feed_1 : decode cX7_feed 1 = .ok (.i2l, 1) := by decide +kernel
theorem dX7_feed_2 : decode cX7_feed 2 = .ok (.lconst 1, 1) := by decide +kernel
theorem dX7_feed_3 : decode cX7_feed 3 = .ok (.ldc2_w 71, 3) := by decide +kernel
theorem dX7_feed_6 : decode cX7_feed 6 = .ok (.invokestatic 49, 3) := by decide +kernel
theorem dX7_feed_9 : decode cX7_feed 9 = .ok (.ifCond .ne 10, 3) := by decide +kernel
theorem dX7_feed_12 : decode cX7_feed 12 = .ok (.aload_n 0, 1) := by decide +kernel
theorem dX7_feed_13 : decode cX7_feed 13 = .ok (.ldc 46, 2) := by decide +kernel
theorem dX7_feed_15 : decode cX7_feed 15 = .ok (.invokevirtual 64, 3) := by decide +kernel
theorem dX7_feed_18 : decode cX7_feed 18 = .ok (.ireturn, 1) := by decide +kernel
theorem dX7_feed_19 : decode cX7_feed 19 = .ok (.aload_n 0, 1) := by decide +kernel
theorem dX7_feed_20 : decode cX7_feed 20 = .ok (.getfield 192, 3) := by decide +kernel
theorem dX7_feed_23 : decode cX7_feed 23 = .ok (.iload_n 2, 1) := by decide +kernel
theorem dX7_feed_24 : decode cX7_feed 24 = .ok (.iadd, 1) := by decide +kernel
theorem dX7_feed_25 : decode cX7_feed 25 = .ok (.bipush 120, 2) := by decide +kernel
theorem dX7_feed_27 : decode cX7_feed 27 = .ok (.if_icmp .le 10, 3) := by decide +kernel
theorem dX7_feed_30 : decode cX7_feed 30 = .ok (.aload_n 0, 1) := by decide +kernel
theorem dX7_feed_31 : decode cX7_feed 31 = .ok (.ldc 82, 2) := by decide +kernel
theorem dX7_feed_33 : decode cX7_feed 33 = .ok (.invokevirtual 64, 3) := by decide +kernel
theorem dX7_feed_36 : decode cX7_feed 36 = .ok (.ireturn, 1) := by decide +kernel
theorem dX7_feed_37 : decode cX7_feed 37 = .ok (.iload_n 2, 1) := by decide +kernel
theorem dX7_feed_38 : decode cX7_feed 38 = .ok (.iconst 1, 1) := by decide +kernel
theorem dX7_feed_39 : decode cX7_feed 39 = .ok (.isub, 1) := by decide +kernel
theorem dX7_feed_40 : decode cX7_feed 40 = .ok (.istore_n 3, 1) := by decide +kernel
theorem dX7_feed_41 : decode cX7_feed 41 = .ok (.iload_n 3, 1) := by decide +kernel
theorem dX7_feed_42 : decode cX7_feed 42 = .ok (.ifCond .lt 38, 3) := by decide +kernel
theorem dX7_feed_45 : decode cX7_feed 45 = .ok (.aload_n 0, 1) := by decide +kernel
theorem dX7_feed_46 : decode cX7_feed 46 = .ok (.getfield 31, 3) := by decide +kernel
theorem dX7_feed_49 : decode cX7_feed 49 = .ok (.aload_n 0, 1) := by decide +kernel
theorem dX7_feed_50 : decode cX7_feed 50 = .ok (.getfield 192, 3) := by decide +kernel
theorem dX7_feed_53 : decode cX7_feed 53 = .ok (.iload_n 1, 1) := by decide +kernel
theorem dX7_feed_54 : decode cX7_feed 54 = .ok (.bipush 8, 2) := by decide +kernel
theorem dX7_feed_56 : decode cX7_feed 56 = .ok (.iload_n 3, 1) := by decide +kernel
theorem dX7_feed_57 : decode cX7_feed 57 = .ok (.imul, 1) := by decide +kernel
theorem dX7_feed_58 : decode cX7_feed 58 = .ok (.ishr, 1) := by decide +kernel
theorem dX7_feed_59 : decode cX7_feed 59 = .ok (.sipush 255, 3) := by decide +kernel
theorem dX7_feed_62 : decode cX7_feed 62 = .ok (.iand, 1) := by decide +kernel
theorem dX7_feed_63 : decode cX7_feed 63 = .ok (.iastore, 1) := by decide +kernel
theorem dX7_feed_64 : decode cX7_feed 64 = .ok (.aload_n 0, 1) := by decide +kernel
theorem dX7_feed_65 : decode cX7_feed 65 = .ok (.dup, 1) := by decide +kernel
theorem dX7_feed_66 : decode cX7_feed 66 = .ok (.getfield 192, 3) := by decide +kernel
theorem dX7_feed_69 : decode cX7_feed 69 = .ok (.iconst 1, 1) := by decide +kernel
theorem dX7_feed_70 : decode cX7_feed 70 = .ok (.iadd, 1) := by decide +kernel
theorem dX7_feed_71 : decode cX7_feed 71 = .ok (.putfield 192, 3) := by decide +kernel
theorem dX7_feed_74 : decode cX7_feed 74 = .ok (.iinc 3 (-1), 3) := by decide +kernel
theorem dX7_feed_77 : decode cX7_feed 77 = .ok (.goto (-36), 3) := by decide +kernel
theorem dX7_feed_80 : decode cX7_feed 80 = .ok (.aload_n 0, 1) := by decide +kernel
theorem dX7_feed_81 : decode cX7_feed 81 = .ok (.getfield 192, 3) := by decide +kernel
theorem dX7_feed_84 : decode cX7_feed 84 = .ok (.ireturn, 1) := by decide +kernel
theorem dX7_wipe_0 : decode cX7_wipe 0 = .ok (.aload_n 0, 1) := by decide +kernel
theorem dX7_wipe_1 : decode cX7_wipe 1 = .ok (.getfield 192, 3) := by decide +kernel
theorem dX7_wipe_4 : decode cX7_wipe 4 = .ok (.istore_n 1, 1) := by decide +kernel
theorem dX7_wipe_5 : decode cX7_wipe 5 = .ok (.aload_n 0, 1) := by decide +kernel
theorem dX7_wipe_6 : decode cX7_wipe 6 = .ok (.iconst 0, 1) := by decide +kernel
theorem dX7_wipe_7 : decode cX7_wipe 7 = .ok (.putfield 192, 3) := by decide +kernel
theorem dX7_wipe_10 : decode cX7_wipe 10 = .ok (.iload_n 1, 1) := by decide +kernel
theorem dX7_wipe_11 : decode cX7_wipe 11 = .ok (.ireturn, 1) := by decide +kernel
theorem dX7_byteAt_0 : decode cX7_byteAt 0 = .ok (.iload_n 1, 1) := by decide +kernel
theorem dX7_byteAt_1 : decode cX7_byteAt 1 = .ok (.aload_n 0, 1) := by decide +kernel
theorem dX7_byteAt_2 : decode cX7_byteAt 2 = .ok (.getfield 192, 3) := by decide +kernel
theorem dX7_byteAt_5 : decode cX7_byteAt 5 = .ok (.if_icmp .ge 12, 3) := by decide +kernel
theorem dX7_byteAt_8 : decode cX7_byteAt 8 = .ok (.aload_n 0, 1) := by decide +kernel
theorem dX7_byteAt_9 : decode cX7_byteAt 9 = .ok (.getfield 31, 3) := by decide +kernel
theorem dX7_byteAt_12 : decode cX7_byteAt 12 = .ok (.iload_n 1, 1) := by decide +kernel
theorem dX7_byteAt_13 : decode cX7_byteAt 13 = .ok (.iaload, 1) := by decide +kernel
theorem dX7_byteAt_14 : decode cX7_byteAt 14 = .ok (.goto 4, 3) := by decide +kernel
theorem dX7_byteAt_17 : decode cX7_byteAt 17 = .ok (.iconst (-1), 1) := by decide +kernel
theorem dX7_byteAt_18 : decode cX7_byteAt 18 = .ok (.ireturn, 1) := by decide +kernel
theorem dX7_isLetter_0 : decode cX7_isLetter 0 = .ok (.iload_n 0, 1) := by decide +kernel
theorem dX7_isLetter_1 : decode cX7_isLetter 1 = .ok (.i2l, 1) := by decide +kernel
theorem dX7_isLetter_2 : decode cX7_isLetter 2 = .ok (.ldc2_w 195, 3) := by decide +kernel
theorem dX7_isLetter_5 : decode cX7_isLetter 5 = .ok (.ldc2_w 197, 3) := by decide +kernel
theorem dX7_isLetter_8 : decode cX7_isLetter 8 = .ok (.invokestatic 49, 3) := by decide +kernel
theorem dX7_isLetter_11 : decode cX7_isLetter 11 = .ok (.ireturn, 1) := by decide +kernel
theorem dX7_isDigit_0 : decode cX7_isDigit 0 = .ok (.iload_n 0, 1) := by decide +kernel
theorem dX7_isDigit_1 : decode cX7_isDigit 1 = .ok (.i2l, 1) := by decide +kernel
theorem dX7_isDigit_2 : decode cX7_isDigit 2 = .ok (.ldc2_w 144, 3) := by decide +kernel
theorem dX7_isDigit_5 : decode cX7_isDigit 5 = .ok (.ldc2_w 199, 3) := by decide +kernel
theorem dX7_isDigit_8 : decode cX7_isDigit 8 = .ok (.invokestatic 49, 3) := by decide +kernel
theorem dX7_isDigit_11 : decode cX7_isDigit 11 = .ok (.ireturn, 1) := by decide +kernel
theorem dX7_token_0 : decode cX7_token 0 = .ok (.aload_n 0, 1) := by decide +kernel
theorem dX7_token_1 : decode cX7_token 1 = .ok (.aload_n 0, 1) := by decide +kernel
theorem dX7_token_2 : decode cX7_token 2 = .ok (.getfield 201, 3) := by decide +kernel
theorem dX7_token_5 : decode cX7_token 5 = .ok (.putfield 204, 3) := by decide +kernel
theorem dX7_token_8 : decode cX7_token 8 = .ok (.aload_n 0, 1) := by decide +kernel
theorem dX7_token_9 : decode cX7_token 9 = .ok (.aload_n 0, 1) := by decide +kernel
theorem dX7_token_10 : decode cX7_token 10 = .ok (.getfield 204, 3) := by decide +kernel
theorem dX7_token_13 : decode cX7_token 13 = .ok (.invokevirtual 207, 3) := by decide +kernel
theorem dX7_token_16 : decode cX7_token 16 = .ok (.bipush 32, 2) := by decide +kernel
theorem dX7_token_18 : decode cX7_token 18 = .ok (.if_icmp .ne 16, 3) := by decide +kernel
theorem dX7_token_21 : decode cX7_token 21 = .ok (.aload_n 0, 1) := by decide +kernel
theorem dX7_token_22 : decode cX7_token 22 = .ok (.dup, 1) := by decide +kernel
theorem dX7_token_23 : decode cX7_token 23 = .ok (.getfield 204, 3) := by decide +kernel
theorem dX7_token_26 : decode cX7_token 26 = .ok (.iconst 1, 1) := by decide +kernel
theorem dX7_token_27 : decode cX7_token 27 = .ok (.iadd, 1) := by decide +kernel
theorem dX7_token_28 : decode cX7_token 28 = .ok (.putfield 204, 3) := by decide +kernel
theorem dX7_token_31 : decode cX7_token 31 = .ok (.goto (-23), 3) := by decide +kernel
theorem dX7_token_34 : decode cX7_token 34 = .ok (.aload_n 0, 1) := by decide +kernel
theorem dX7_token_35 : decode cX7_token 35 = .ok (.aload_n 0, 1) := by decide +kernel
theorem dX7_token_36 : decode cX7_token 36 = .ok (.getfield 204, 3) := by decide +kernel
theorem dX7_token_39 : decode cX7_token 39 = .ok (.invokevirtual 207, 3) := by decide +kernel
theorem dX7_token_42 : decode cX7_token 42 = .ok (.invokestatic 210, 3) := by decide +kernel
theorem dX7_token_45 : decode cX7_token 45 = .ok (.istore_n 1, 1) := by decide +kernel
theorem dX7_token_46 : decode cX7_token 46 = .ok (.aload_n 0, 1) := by decide +kernel
theorem dX7_token_47 : decode cX7_token 47 = .ok (.aload_n 0, 1) := by decide +kernel
theorem dX7_token_48 : decode cX7_token 48 = .ok (.getfield 204, 3) := by decide +kernel
theorem dX7_token_51 : decode cX7_token 51 = .ok (.invokevirtual 207, 3) := by decide +kernel
theorem dX7_token_54 : decode cX7_token 54 = .ok (.invokestatic 213, 3) := by decide +kernel
theorem dX7_token_57 : decode cX7_token 57 = .ok (.istore_n 2, 1) := by decide +kernel
theorem dX7_token_58 : decode cX7_token 58 = .ok (.aload_n 0, 1) := by decide +kernel
theorem dX7_token_59 : decode cX7_token 59 = .ok (.aload_n 0, 1) := by decide +kernel
theorem dX7_token_60 : decode cX7_token 60 = .ok (.getfield 204, 3) := by decide +kernel
theorem dX7_token_63 : decode cX7_token 63 = .ok (.aload_n 0, 1) := by decide +kernel
theorem dX7_token_64 : decode cX7_token 64 = .ok (.getfield 192, 3) := by decide +kernel
theorem dX7_token_67 : decode cX7_token 67 = .ok (.if_icmp .ge 12, 3) := by decide +kernel
theorem dX7_token_70 : decode cX7_token 70 = .ok (.aload_n 0, 1) := by decide +kernel
theorem dX7_token_71 : decode cX7_token 71 = .ok (.getfield 204, 3) := by decide +kernel
theorem dX7_token_74 : decode cX7_token 74 = .ok (.iconst 1, 1) := by decide +kernel
theorem dX7_token_75 : decode cX7_token 75 = .ok (.iadd, 1) := by decide +kernel
theorem dX7_token_76 : decode cX7_token 76 = .ok (.goto 7, 3) := by decide +kernel
theorem dX7_token_79 : decode cX7_token 79 = .ok (.aload_n 0, 1) := by decide +kernel
theorem dX7_token_80 : decode cX7_token 80 = .ok (.getfield 204, 3) := by decide +kernel
theorem dX7_token_83 : decode cX7_token 83 = .ok (.putfield 201, 3) := by decide +kernel
theorem dX7_token_86 : decode cX7_token 86 = .ok (.iload_n 1, 1) := by decide +kernel
theorem dX7_token_87 : decode cX7_token 87 = .ok (.ifCond .eq 17, 3) := by decide +kernel
theorem dX7_token_90 : decode cX7_token 90 = .ok (.aload_n 0, 1) := by decide +kernel
theorem dX7_token_91 : decode cX7_token 91 = .ok (.aload_n 0, 1) := by decide +kernel
theorem dX7_token_92 : decode cX7_token 92 = .ok (.getfield 201, 3) := by decide +kernel
theorem dX7_token_95 : decode cX7_token 95 = .ok (.invokevirtual 207, 3) := by decide +kernel
theorem dX7_token_98 : decode cX7_token 98 = .ok (.invokestatic 210, 3) := by decide +kernel
theorem dX7_token_101 : decode cX7_token 101 = .ok (.ifCond .ne 21, 3) := by decide +kernel
theorem dX7_token_104 : decode cX7_token 104 = .ok (.iload_n 2, 1) := by decide +kernel
theorem dX7_token_105 : decode cX7_token 105 = .ok (.ifCond .eq 30, 3) := by decide +kernel
theorem dX7_token_108 : decode cX7_token 108 = .ok (.aload_n 0, 1) := by decide +kernel
theorem dX7_token_109 : decode cX7_token 109 = .ok (.aload_n 0, 1) := by decide +kernel
theorem dX7_token_110 : decode cX7_token 110 = .ok (.getfield 201, 3) := by decide +kernel
theorem dX7_token_113 : decode cX7_token 113 = .ok (.invokevirtual 207, 3) := by decide +kernel
theorem dX7_token_116 : decode cX7_token 116 = .ok (.invokestatic 213, 3) := by decide +kernel
theorem dX7_token_119 : decode cX7_token 119 = .ok (.ifCond .eq 16, 3) := by decide +kernel
theorem dX7_token_122 : decode cX7_token 122 = .ok (.aload_n 0, 1) := by decide +kernel
theorem dX7_token_123 : decode cX7_token 123 = .ok (.dup, 1) := by decide +kernel
theorem dX7_token_124 : decode cX7_token 124 = .ok (.getfield 201, 3) := by decide +kernel
theorem dX7_token_127 : decode cX7_token 127 = .ok (.iconst 1, 1) := by decide +kernel
theorem dX7_token_128 : decode cX7_token 128 = .ok (.iadd, 1) := by decide +kernel
theorem dX7_token_129 : decode cX7_token 129 = .ok (.putfield 201, 3) := by decide +kernel
theorem dX7_token_132 : decode cX7_token 132 = .ok (.goto (-46), 3) := by decide +kernel
theorem dX7_token_135 : decode cX7_token 135 = .ok (.return_, 1) := by decide +kernel
theorem dX7_needs_0 : decode cX7_needs 0 = .ok (.aload_n 0, 1) := by decide +kernel
theorem dX7_needs_1 : decode cX7_needs 1 = .ok (.aload_n 0, 1) := by decide +kernel
theorem dX7_needs_2 : decode cX7_needs 2 = .ok (.getfield 216, 3) := by decide +kernel
theorem dX7_needs_5 : decode cX7_needs 5 = .ok (.ifCond .ne 7, 3) := by decide +kernel
theorem dX7_needs_8 : decode cX7_needs 8 = .ok (.iload_n 1, 1) := by decide +kernel
theorem dX7_needs_9 : decode cX7_needs 9 = .ok (.ifCond .ne 7, 3) := by decide +kernel
theorem dX7_needs_12 : decode cX7_needs 12 = .ok (.iconst 1, 1) := by decide +kernel
theorem dX7_needs_13 : decode cX7_needs 13 = .ok (.goto 4, 3) := by decide +kernel
theorem dX7_needs_16 : decode cX7_needs 16 = .ok (.iconst 0, 1) := by decide +kernel
theorem dX7_needs_17 : decode cX7_needs 17 = .ok (.putfield 216, 3) := by decide +kernel
theorem dX7_needs_20 : decode cX7_needs 20 = .ok (.aload_n 0, 1) := by decide +kernel
theorem dX7_needs_21 : decode cX7_needs 21 = .ok (.getfield 216, 3) := by decide +kernel
theorem dX7_needs_24 : decode cX7_needs 24 = .ok (.ifCond .ne 7, 3) := by decide +kernel
theorem dX7_needs_27 : decode cX7_needs 27 = .ok (.aload_n 0, 1) := by decide +kernel
theorem dX7_needs_28 : decode cX7_needs 28 = .ok (.invokevirtual 219, 3) := by decide +kernel
theorem dX7_needs_31 : decode cX7_needs 31 = .ok (.return_, 1) := by decide +kernel
theorem dX7_word_0 : decode cX7_word 0 = .ok (.lconst 0, 1) := by decide +kernel
theorem dX7_word_1 : decode cX7_word 1 = .ok (.lstore_n 1, 1) := by decide +kernel
theorem dX7_word_2 : decode cX7_word 2 = .ok (.aload_n 0, 1) := by decide +kernel
theorem dX7_word_3 : decode cX7_word 3 = .ok (.getfield 204, 3) := by decide +kernel
theorem dX7_word_6 : decode cX7_word 6 = .ok (.istore_n 3, 1) := by decide +kernel
theorem dX7_word_7 : decode cX7_word 7 = .ok (.iload_n 3, 1) := by decide +kernel
theorem dX7_word_8 : decode cX7_word 8 = .ok (.aload_n 0, 1) := by decide +kernel
theorem dX7_word_9 : decode cX7_word 9 = .ok (.getfield 201, 3) := by decide +kernel
theorem dX7_word_12 : decode cX7_word 12 = .ok (.if_icmp .ge 38, 3) := by decide +kernel
theorem dX7_word_15 : decode cX7_word 15 = .ok (.lload_n 1, 1) := by decide +kernel
theorem dX7_word_16 : decode cX7_word 16 = .ok (.ldc2_w 222, 3) := by decide +kernel
theorem dX7_word_19 : decode cX7_word 19 = .ok (.lcmp, 1) := by decide +kernel
theorem dX7_word_20 : decode cX7_word 20 = .ok (.ifCond .le 7, 3) := by decide +kernel
theorem dX7_word_23 : decode cX7_word 23 = .ok (.lload_n 1, 1) := by decide +kernel
theorem dX7_word_24 : decode cX7_word 24 = .ok (.goto 19, 3) := by decide +kernel
theorem dX7_word_27 : decode cX7_word 27 = .ok (.ldc2_w 224, 3) := by decide +kernel
theorem dX7_word_30 : decode cX7_word 30 = .ok (.lload_n 1, 1) := by decide +kernel
theorem dX7_word_31 : decode cX7_word 31 = .ok (.lmul, 1) := by decide +kernel
theorem dX7_word_32 : decode cX7_word 32 = .ok (.aload_n 0, 1) := by decide +kernel
theorem dX7_word_33 : decode cX7_word 33 = .ok (.getfield 31, 3) := by decide +kernel
theorem dX7_word_36 : decode cX7_word 36 = .ok (.iload_n 3, 1) := by decide +kernel
theorem dX7_word_37 : decode cX7_word 37 = .ok (.iaload, 1) := by decide +kernel
theorem dX7_word_38 : decode cX7_word 38 = .ok (.bipush 96, 2) := by decide +kernel
theorem dX7_word_40 : decode cX7_word 40 = .ok (.isub, 1) := by decide +kernel
theorem dX7_word_41 : decode cX7_word 41 = .ok (.i2l, 1) := by decide +kernel
theorem dX7_word_42 : decode cX7_word 42 = .ok (.ladd, 1) := by decide +kernel
theorem dX7_word_43 : decode cX7_word 43 = .ok (.lstore_n 1, 1) := by decide +kernel
theorem dX7_word_44 : decode cX7_word 44 = .ok (.iinc 3 1, 3) := by decide +kernel
theorem dX7_word_47 : decode cX7_word 47 = .ok (.goto (-40), 3) := by decide +kernel
theorem dX7_word_50 : decode cX7_word 50 = .ok (.aload_n 0, 1) := by decide +kernel
theorem dX7_word_51 : decode cX7_word 51 = .ok (.getfield 216, 3) := by decide +kernel
theorem dX7_word_54 : decode cX7_word 54 = .ok (.ifCond .ne 17, 3) := by decide +kernel
theorem dX7_word_57 : decode cX7_word 57 = .ok (.aload_n 0, 1) := by decide +kernel
theorem dX7_word_58 : decode cX7_word 58 = .ok (.aload_n 0, 1) := by decide +kernel
theorem dX7_word_59 : decode cX7_word 59 = .ok (.getfield 204, 3) := by decide +kernel
theorem dX7_word_62 : decode cX7_word 62 = .ok (.invokevirtual 207, 3) := by decide +kernel
theorem dX7_word_65 : decode cX7_word 65 = .ok (.invokestatic 210, 3) := by decide +kernel
theorem dX7_word_68 : decode cX7_word 68 = .ok (.ifCond .ne 7, 3) := by decide +kernel
theorem dX7_word_71 : decode cX7_word 71 = .ok (.lconst 0, 1) := by decide +kernel
theorem dX7_word_72 : decode cX7_word 72 = .ok (.goto 4, 3) := by decide +kernel
theorem dX7_word_75 : decode cX7_word 75 = .ok (.lload_n 1, 1) := by decide +kernel
theorem dX7_word_76 : decode cX7_word 76 = .ok (.lreturn, 1) := by decide +kernel
theorem dX7_number_0 : decode cX7_number 0 = .ok (.aload_n 0, 1) := by decide +kernel
theorem dX7_number_1 : decode cX7_number 1 = .ok (.getfield 216, 3) := by decide +kernel
theorem dX7_number_4 : decode cX7_number 4 = .ok (.ifCond .eq 4, 3) := by decide +kernel
theorem dX7_number_7 : decode cX7_number 7 = .ok (.return_, 1) := by decide +kernel
theorem dX7_number_8 : decode cX7_number 8 = .ok (.aload_n 0, 1) := by decide +kernel
theorem dX7_number_9 : decode cX7_number 9 = .ok (.aload_n 0, 1) := by decide +kernel
theorem dX7_number_10 : decode cX7_number 10 = .ok (.getfield 204, 3) := by decide +kernel
theorem dX7_number_13 : decode cX7_number 13 = .ok (.invokevirtual 207, 3) := by decide +kernel
theorem dX7_number_16 : decode cX7_number 16 = .ok (.invokestatic 213, 3) := by decide +kernel
theorem dX7_number_19 : decode cX7_number 19 = .ok (.istore_n 3, 1) := by decide +kernel
theorem dX7_number_20 : decode cX7_number 20 = .ok (.iconst 0, 1) := by decide +kernel
theorem dX7_number_21 : decode cX7_number 21 = .ok (.istore 4, 2) := by decide +kernel
theorem dX7_number_23 : decode cX7_number 23 = .ok (.aload_n 0, 1) := by decide +kernel
theorem dX7_number_24 : decode cX7_number 24 = .ok (.getfield 204, 3) := by decide +kernel
theorem dX7_number_27 : decode cX7_number 27 = .ok (.istore 5, 2) := by decide +kernel
theorem dX7_number_29 : decode cX7_number 29 = .ok (.iload 5, 2) := by decide +kernel
theorem dX7_number_31 : decode cX7_number 31 = .ok (.aload_n 0, 1) := by decide +kernel
theorem dX7_number_32 : decode cX7_number 32 = .ok (.getfield 201, 3) := by decide +kernel
theorem dX7_number_35 : decode cX7_number 35 = .ok (.if_icmp .ge 44, 3) := by decide +kernel
theorem dX7_number_38 : decode cX7_number 38 = .ok (.iload_n 3, 1) := by decide +kernel
theorem dX7_number_39 : decode cX7_number 39 = .ok (.ifCond .eq 40, 3) := by decide +kernel
theorem dX7_number_42 : decode cX7_number 42 = .ok (.iload 4, 2) := by decide +kernel
theorem dX7_number_44 : decode cX7_number 44 = .ok (.sipush 999, 3) := by decide +kernel
theorem dX7_number_47 : decode cX7_number 47 = .ok (.if_icmp .le 8, 3) := by decide +kernel
theorem dX7_number_50 : decode cX7_number 50 = .ok (.iload 4, 2) := by decide +kernel
theorem dX7_number_52 : decode cX7_number 52 = .ok (.goto 19, 3) := by decide +kernel
theorem dX7_number_55 : decode cX7_number 55 = .ok (.bipush 10, 2) := by decide +kernel
theorem dX7_number_57 : decode cX7_number 57 = .ok (.iload 4, 2) := by decide +kernel
theorem dX7_number_59 : decode cX7_number 59 = .ok (.imul, 1) := by decide +kernel
theorem dX7_number_60 : decode cX7_number 60 = .ok (.aload_n 0, 1) := by decide +kernel
theorem dX7_number_61 : decode cX7_number 61 = .ok (.getfield 31, 3) := by decide +kernel
theorem dX7_number_64 : decode cX7_number 64 = .ok (.iload 5, 2) := by decide +kernel
theorem dX7_number_66 : decode cX7_number 66 = .ok (.iaload, 1) := by decide +kernel
theorem dX7_number_67 : decode cX7_number 67 = .ok (.iadd, 1) := by decide +kernel
theorem dX7_number_68 : decode cX7_number 68 = .ok (.bipush 48, 2) := by decide +kernel
theorem dX7_number_70 : decode cX7_number 70 = .ok (.isub, 1) := by decide +kernel
theorem dX7_number_71 : decode cX7_number 71 = .ok (.istore 4, 2) := by decide +kernel
theorem dX7_number_73 : decode cX7_number 73 = .ok (.iinc 5 1, 3) := by decide +kernel
theorem dX7_number_76 : decode cX7_number 76 = .ok (.goto (-47), 3) := by decide +kernel
theorem dX7_number_79 : decode cX7_number 79 = .ok (.aload_n 0, 1) := by decide +kernel
theorem dX7_number_80 : decode cX7_number 80 = .ok (.iload 4, 2) := by decide +kernel
theorem dX7_number_82 : decode cX7_number 82 = .ok (.putfield 226, 3) := by decide +kernel
theorem dX7_number_85 : decode cX7_number 85 = .ok (.aload_n 0, 1) := by decide +kernel
theorem dX7_number_86 : decode cX7_number 86 = .ok (.iload_n 3, 1) := by decide +kernel
theorem dX7_number_87 : decode cX7_number 87 = .ok (.ifCond .eq 20, 3) := by decide +kernel
theorem dX7_number_90 : decode cX7_number 90 = .ok (.iload 4, 2) := by decide +kernel
theorem dX7_number_92 : decode cX7_number 92 = .ok (.i2l, 1) := by decide +kernel
theorem dX7_number_93 : decode cX7_number 93 = .ok (.iload_n 1, 1) := by decide +kernel
theorem dX7_number_94 : decode cX7_number 94 = .ok (.i2l, 1) := by decide +kernel
theorem dX7_number_95 : decode cX7_number 95 = .ok (.iload_n 2, 1) := by decide +kernel
theorem dX7_number_96 : decode cX7_number 96 = .ok (.i2l, 1) := by decide +kernel
theorem dX7_number_97 : decode cX7_number 97 = .ok (.invokestatic 49, 3) := by decide +kernel
theorem dX7_number_100 : decode cX7_number 100 = .ok (.ifCond .eq 7, 3) := by decide +kernel
theorem dX7_number_103 : decode cX7_number 103 = .ok (.iconst 1, 1) := by decide +kernel
theorem dX7_number_104 : decode cX7_number 104 = .ok (.goto 4, 3) := by decide +kernel
theorem dX7_number_107 : decode cX7_number 107 = .ok (.iconst 0, 1) := by decide +kernel
theorem dX7_number_108 : decode cX7_number 108 = .ok (.invokevirtual 229, 3) := by decide +kernel
theorem dX7_number_111 : decode cX7_number 111 = .ok (.return_, 1) := by decide +kernel
theorem dX7_kindHere_0 : decode cX7_kindHere 0 = .ok (.aload_n 0, 1) := by decide +kernel
theorem dX7_kindHere_1 : decode cX7_kindHere 1 = .ok (.invokevirtual 233, 3) := by decide +kernel
theorem dX7_kindHere_4 : decode cX7_kindHere 4 = .ok (.lstore_n 1, 1) := by decide +kernel
theorem dX7_kindHere_5 : decode cX7_kindHere 5 = .ok (.lload_n 1, 1) := by decide +kernel
theorem dX7_kindHere_6 : decode cX7_kindHere 6 = .ok (.ldc2_w 237, 3) := by decide +kernel
theorem dX7_kindHere_9 : decode cX7_kindHere 9 = .ok (.lcmp, 1) := by decide +kernel
theorem dX7_kindHere_10 : decode cX7_kindHere 10 = .ok (.ifCond .ne 7, 3) := by decide +kernel
theorem dX7_kindHere_13 : decode cX7_kindHere 13 = .ok (.iconst 0, 1) := by decide +kernel
theorem dX7_kindHere_14 : decode cX7_kindHere 14 = .ok (.goto 77, 3) := by decide +kernel
theorem dX7_kindHere_17 : decode cX7_kindHere 17 = .ok (.lload_n 1, 1) := by decide +kernel
theorem dX7_kindHere_18 : decode cX7_kindHere 18 = .ok (.ldc2_w 239, 3) := by decide +kernel
theorem dX7_kindHere_21 : decode cX7_kindHere 21 = .ok (.lcmp, 1) := by decide +kernel
theorem dX7_kindHere_22 : decode cX7_kindHere 22 = .ok (.ifCond .ne 7, 3) := by decide +kernel
theorem dX7_kindHere_25 : decode cX7_kindHere 25 = .ok (.iconst 1, 1) := by decide +kernel
theorem dX7_kindHere_26 : decode cX7_kindHere 26 = .ok (.goto 65, 3) := by decide +kernel
theorem dX7_kindHere_29 : decode cX7_kindHere 29 = .ok (.lload_n 1, 1) := by decide +kernel
theorem dX7_kindHere_30 : decode cX7_kindHere 30 = .ok (.ldc2_w 241, 3) := by decide +kernel
theorem dX7_kindHere_33 : decode cX7_kindHere 33 = .ok (.lcmp, 1) := by decide +kernel
theorem dX7_kindHere_34 : decode cX7_kindHere 34 = .ok (.ifCond .ne 7, 3) := by decide +kernel
theorem dX7_kindHere_37 : decode cX7_kindHere 37 = .ok (.iconst 2, 1) := by decide +kernel
theorem dX7_kindHere_38 : decode cX7_kindHere 38 = .ok (.goto 53, 3) := by decide +kernel
theorem dX7_kindHere_41 : decode cX7_kindHere 41 = .ok (.lload_n 1, 1) := by decide +kernel
theorem dX7_kindHere_42 : decode cX7_kindHere 42 = .ok (.ldc2_w 243, 3) := by decide +kernel
theorem dX7_kindHere_45 : decode cX7_kindHere 45 = .ok (.lcmp, 1) := by decide +kernel
theorem dX7_kindHere_46 : decode cX7_kindHere 46 = .ok (.ifCond .ne 7, 3) := by decide +kernel
theorem dX7_kindHere_49 : decode cX7_kindHere 49 = .ok (.iconst 3, 1) := by decide +kernel
theorem dX7_kindHere_50 : decode cX7_kindHere 50 = .ok (.goto 41, 3) := by decide +kernel
theorem dX7_kindHere_53 : decode cX7_kindHere 53 = .ok (.lload_n 1, 1) := by decide +kernel
theorem dX7_kindHere_54 : decode cX7_kindHere 54 = .ok (.ldc2_w 245, 3) := by decide +kernel
theorem dX7_kindHere_57 : decode cX7_kindHere 57 = .ok (.lcmp, 1) := by decide +kernel
theorem dX7_kindHere_58 : decode cX7_kindHere 58 = .ok (.ifCond .ne 7, 3) := by decide +kernel
theorem dX7_kindHere_61 : decode cX7_kindHere 61 = .ok (.iconst 4, 1) := by decide +kernel
theorem dX7_kindHere_62 : decode cX7_kindHere 62 = .ok (.goto 29, 3) := by decide +kernel
theorem dX7_kindHere_65 : decode cX7_kindHere 65 = .ok (.lload_n 1, 1) := by decide +kernel
theorem dX7_kindHere_66 : decode cX7_kindHere 66 = .ok (.ldc2_w 247, 3) := by decide +kernel
theorem dX7_kindHere_69 : decode cX7_kindHere 69 = .ok (.lcmp, 1) := by decide +kernel
theorem dX7_kindHere_70 : decode cX7_kindHere 70 = .ok (.ifCond .ne 7, 3) := by decide +kernel
theorem dX7_kindHere_73 : decode cX7_kindHere 73 = .ok (.iconst 5, 1) := by decide +kernel
theorem dX7_kindHere_74 : decode cX7_kindHere 74 = .ok (.goto 17, 3) := by decide +kernel
theorem dX7_kindHere_77 : decode cX7_kindHere 77 = .ok (.lload_n 1, 1) := by decide +kernel
theorem dX7_kindHere_78 : decode cX7_kindHere 78 = .ok (.ldc2_w 249, 3) := by decide +kernel
theorem dX7_kindHere_81 : decode cX7_kindHere 81 = .ok (.lcmp, 1) := by decide +kernel
theorem dX7_kindHere_82 : decode cX7_kindHere 82 = .ok (.ifCond .ne 8, 3) := by decide +kernel
theorem dX7_kindHere_85 : decode cX7_kindHere 85 = .ok (.bipush 6, 2) := by decide +kernel
theorem dX7_kindHere_87 : decode cX7_kindHere 87 = .ok (.goto 4, 3) := by decide +kernel
theorem dX7_kindHere_90 : decode cX7_kindHere 90 = .ok (.iconst (-1), 1) := by decide +kernel
theorem dX7_kindHere_91 : decode cX7_kindHere 91 = .ok (.ireturn, 1) := by decide +kernel
theorem dX7_perhaps_0 : decode cX7_perhaps 0 = .ok (.iload_n 1, 1) := by decide +kernel
theorem dX7_perhaps_1 : decode cX7_perhaps 1 = .ok (.ifCond .ne 5, 3) := by decide +kernel
theorem dX7_perhaps_4 : decode cX7_perhaps 4 = .ok (.iload_n 3, 1) := by decide +kernel
theorem dX7_perhaps_5 : decode cX7_perhaps 5 = .ok (.ireturn, 1) := by decide +kernel
theorem dX7_perhaps_6 : decode cX7_perhaps 6 = .ok (.aload_n 0, 1) := by decide +kernel
theorem dX7_perhaps_7 : decode cX7_perhaps 7 = .ok (.iconst 1, 1) := by decide +kernel
theorem dX7_perhaps_8 : decode cX7_perhaps 8 = .ok (.invokevirtual 229, 3) := by decide +kernel
theorem dX7_perhaps_11 : decode cX7_perhaps 11 = .ok (.aload_n 0, 1) := by decide +kernel
theorem dX7_perhaps_12 : decode cX7_perhaps 12 = .ok (.iconst 0, 1) := by decide +kernel
theorem dX7_perhaps_13 : decode cX7_perhaps 13 = .ok (.iload_n 2, 1) := by decide +kernel
theorem dX7_perhaps_14 : decode cX7_perhaps 14 = .ok (.invokevirtual 251, 3) := by decide +kernel
theorem dX7_perhaps_17 : decode cX7_perhaps 17 = .ok (.aload_n 0, 1) := by decide +kernel
theorem dX7_perhaps_18 : decode cX7_perhaps 18 = .ok (.getfield 226, 3) := by decide +kernel
theorem dX7_perhaps_21 : decode cX7_perhaps 21 = .ok (.ireturn, 1) := by decide +kernel
theorem dX7_chimneyItem_0 : decode cX7_chimneyItem 0 = .ok (.aload_n 0, 1) := by decide +kernel
theorem dX7_chimneyItem_1 : decode cX7_chimneyItem 1 = .ok (.aload_n 0, 1) := by decide +kernel
theorem dX7_chimneyItem_2 : decode cX7_chimneyItem 2 = .ok (.getfield 7, 3) := by decide +kernel
theorem dX7_chimneyItem_5 : decode cX7_chimneyItem 5 = .ok (.iconst 1, 1) := by decide +kernel
theorem dX7_chimneyItem_6 : decode cX7_chimneyItem 6 = .ok (.iaload, 1) := by decide +kernel
theorem dX7_chimneyItem_7 : decode cX7_chimneyItem 7 = .ok (.bipush 8, 2) := by decide +kernel
theorem dX7_chimneyItem_9 : decode cX7_chimneyItem 9 = .ok (.if_icmp .ge 7, 3) := by decide +kernel
theorem dX7_chimneyItem_12 : decode cX7_chimneyItem 12 = .ok (.iconst 1, 1) := by decide +kernel
theorem dX7_chimneyItem_13 : decode cX7_chimneyItem 13 = .ok (.goto 4, 3) := by decide +kernel
theorem dX7_chimneyItem_16 : decode cX7_chimneyItem 16 = .ok (.iconst 0, 1) := by decide +kernel
theorem dX7_chimneyItem_17 : decode cX7_chimneyItem 17 = .ok (.invokevirtual 229, 3) := by decide +kernel
theorem dX7_chimneyItem_20 : decode cX7_chimneyItem 20 = .ok (.aload_n 0, 1) := by decide +kernel
theorem dX7_chimneyItem_21 : decode cX7_chimneyItem 21 = .ok (.aload_n 0, 1) := by decide +kernel
theorem dX7_chimneyItem_22 : decode cX7_chimneyItem 22 = .ok (.invokevirtual 233, 3) := by decide +kernel
theorem dX7_chimneyItem_25 : decode cX7_chimneyItem 25 = .ok (.ldc2_w 253, 3) := by decide +kernel
theorem dX7_chimneyItem_28 : decode cX7_chimneyItem 28 = .ok (.lcmp, 1) := by decide +kernel
theorem dX7_chimneyItem_29 : decode cX7_chimneyItem 29 = .ok (.ifCond .ne 7, 3) := by decide +kernel
theorem dX7_chimneyItem_32 : decode cX7_chimneyItem 32 = .ok (.iconst 1, 1) := by decide +kernel
theorem dX7_chimneyItem_33 : decode cX7_chimneyItem 33 = .ok (.goto 4, 3) := by decide +kernel
theorem dX7_chimneyItem_36 : decode cX7_chimneyItem 36 = .ok (.iconst 0, 1) := by decide +kernel
theorem dX7_chimneyItem_37 : decode cX7_chimneyItem 37 = .ok (.invokevirtual 229, 3) := by decide +kernel
theorem dX7_chimneyItem_40 : decode cX7_chimneyItem 40 = .ok (.aload_n 0, 1) := by decide +kernel
theorem dX7_chimneyItem_41 : decode cX7_chimneyItem 41 = .ok (.iconst 0, 1) := by decide +kernel
theorem dX7_chimneyItem_42 : decode cX7_chimneyItem 42 = .ok (.iconst 5, 1) := by decide +kernel
theorem dX7_chimneyItem_43 : decode cX7_chimneyItem 43 = .ok (.invokevirtual 251, 3) := by decide +kernel
theorem dX7_chimneyItem_46 : decode cX7_chimneyItem 46 = .ok (.aload_n 0, 1) := by decide +kernel
theorem dX7_chimneyItem_47 : decode cX7_chimneyItem 47 = .ok (.getfield 226, 3) := by decide +kernel
theorem dX7_chimneyItem_50 : decode cX7_chimneyItem 50 = .ok (.istore_n 2, 1) := by decide +kernel
theorem dX7_chimneyItem_51 : decode cX7_chimneyItem 51 = .ok (.aload_n 0, 1) := by decide +kernel
theorem dX7_chimneyItem_52 : decode cX7_chimneyItem 52 = .ok (.aload_n 0, 1) := by decide +kernel
theorem dX7_chimneyItem_53 : decode cX7_chimneyItem 53 = .ok (.invokevirtual 233, 3) := by decide +kernel
theorem dX7_chimneyItem_56 : decode cX7_chimneyItem 56 = .ok (.ldc2_w 255, 3) := by decide +kernel
theorem dX7_chimneyItem_59 : decode cX7_chimneyItem 59 = .ok (.lcmp, 1) := by decide +kernel
theorem dX7_chimneyItem_60 : decode cX7_chimneyItem 60 = .ok (.ifCond .ne 7, 3) := by decide +kernel
theorem dX7_chimneyItem_63 : decode cX7_chimneyItem 63 = .ok (.iconst 1, 1) := by decide +kernel
theorem dX7_chimneyItem_64 : decode cX7_chimneyItem 64 = .ok (.goto 4, 3) := by decide +kernel
theorem dX7_chimneyItem_67 : decode cX7_chimneyItem 67 = .ok (.iconst 0, 1) := by decide +kernel
theorem dX7_chimneyItem_68 : decode cX7_chimneyItem 68 = .ok (.invokevirtual 229, 3) := by decide +kernel
theorem dX7_chimneyItem_71 : decode cX7_chimneyItem 71 = .ok (.aload_n 0, 1) := by decide +kernel
theorem dX7_chimneyItem_72 : decode cX7_chimneyItem 72 = .ok (.iconst 0, 1) := by decide +kernel
theorem dX7_chimneyItem_73 : decode cX7_chimneyItem 73 = .ok (.bipush 35, 2) := by decide +kernel
theorem dX7_chimneyItem_75 : decode cX7_chimneyItem 75 = .ok (.invokevirtual 251, 3) := by decide +kernel
theorem dX7_chimneyItem_78 : decode cX7_chimneyItem 78 = .ok (.aload_n 0, 1) := by decide +kernel
theorem dX7_chimneyItem_79 : decode cX7_chimneyItem 79 = .ok (.getfield 226, 3) := by decide +kernel
theorem dX7_chimneyItem_82 : decode cX7_chimneyItem 82 = .ok (.istore_n 3, 1) := by decide +kernel
theorem dX7_chimneyItem_83 : decode cX7_chimneyItem 83 = .ok (.aload_n 0, 1) := by decide +kernel
theorem dX7_chimneyItem_84 : decode cX7_chimneyItem 84 = .ok (.aload_n 0, 1) := by decide +kernel
theorem dX7_chimneyItem_85 : decode cX7_chimneyItem 85 = .ok (.invokevirtual 233, 3) := by decide +kernel
theorem dX7_chimneyItem_88 : decode cX7_chimneyItem 88 = .ok (.ldc2_w 257, 3) := by decide +kernel
theorem dX7_chimneyItem_91 : decode cX7_chimneyItem 91 = .ok (.lcmp, 1) := by decide +kernel
theorem dX7_chimneyItem_92 : decode cX7_chimneyItem 92 = .ok (.ifCond .ne 7, 3) := by decide +kernel
theorem dX7_chimneyItem_95 : decode cX7_chimneyItem 95 = .ok (.iconst 1, 1) := by decide +kernel
theorem dX7_chimneyItem_96 : decode cX7_chimneyItem 96 = .ok (.goto 4, 3) := by decide +kernel
theorem dX7_chimneyItem_99 : decode cX7_chimneyItem 99 = .ok (.iconst 0, 1) := by decide +kernel
theorem dX7_chimneyItem_100 : decode cX7_chimneyItem 100 = .ok (.bipush 9, 2) := by decide +kernel
theorem dX7_chimneyItem_102 : decode cX7_chimneyItem 102 = .ok (.iconst 1, 1) := by decide +kernel
theorem dX7_chimneyItem_103 : decode cX7_chimneyItem 103 = .ok (.invokevirtual 259, 3) := by decide +kernel
theorem dX7_chimneyItem_106 : decode cX7_chimneyItem 106 = .ok (.istore 4, 2) := by decide +kernel
theorem dX7_chimneyItem_108 : decode cX7_chimneyItem 108 = .ok (.aload_n 0, 1) := by decide +kernel
theorem dX7_chimneyItem_109 : decode cX7_chimneyItem 109 = .ok (.aload_n 0, 1) := by decide +kernel
theorem dX7_chimneyItem_110 : decode cX7_chimneyItem 110 = .ok (.invokevirtual 233, 3) := by decide +kernel
theorem dX7_chimneyItem_113 : decode cX7_chimneyItem 113 = .ok (.ldc2_w 263, 3) := by decide +kernel
theorem dX7_chimneyItem_116 : decode cX7_chimneyItem 116 = .ok (.lcmp, 1) := by decide +kernel
theorem dX7_chimneyItem_117 : decode cX7_chimneyItem 117 = .ok (.ifCond .ne 7, 3) := by decide +kernel
theorem dX7_chimneyItem_120 : decode cX7_chimneyItem 120 = .ok (.iconst 1, 1) := by decide +kernel
theorem dX7_chimneyItem_121 : decode cX7_chimneyItem 121 = .ok (.goto 4, 3) := by decide +kernel
theorem dX7_chimneyItem_124 : decode cX7_chimneyItem 124 = .ok (.iconst 0, 1) := by decide +kernel
theorem dX7_chimneyItem_125 : decode cX7_chimneyItem 125 = .ok (.bipush 99, 2) := by decide +kernel
theorem dX7_chimneyItem_127 : decode cX7_chimneyItem 127 = .ok (.bipush 20, 2) := by decide +kernel
theorem dX7_chimneyItem_129 : decode cX7_chimneyItem 129 = .ok (.invokevirtual 259, 3) := by decide +kernel
theorem dX7_chimneyItem_132 : decode cX7_chimneyItem 132 = .ok (.istore 5, 2) := by decide +kernel
theorem dX7_chimneyItem_134 : decode cX7_chimneyItem 134 = .ok (.aload_n 0, 1) := by decide +kernel
theorem dX7_chimneyItem_135 : decode cX7_chimneyItem 135 = .ok (.invokevirtual 233, 3) := by decide +kernel
theorem dX7_chimneyItem_138 : decode cX7_chimneyItem 138 = .ok (.ldc2_w 265, 3) := by decide +kernel
theorem dX7_chimneyItem_141 : decode cX7_chimneyItem 141 = .ok (.lcmp, 1) := by decide +kernel
theorem dX7_chimneyItem_142 : decode cX7_chimneyItem 142 = .ok (.ifCond .ne 7, 3) := by decide +kernel
theorem dX7_chimneyItem_145 : decode cX7_chimneyItem 145 = .ok (.iconst 1, 1) := by decide +kernel
theorem dX7_chimneyItem_146 : decode cX7_chimneyItem 146 = .ok (.goto 4, 3) := by decide +kernel
theorem dX7_chimneyItem_149 : decode cX7_chimneyItem 149 = .ok (.iconst 0, 1) := by decide +kernel
theorem dX7_chimneyItem_150 : decode cX7_chimneyItem 150 = .ok (.istore 6, 2) := by decide +kernel
theorem dX7_chimneyItem_152 : decode cX7_chimneyItem 152 = .ok (.aload_n 0, 1) := by decide +kernel
theorem dX7_chimneyItem_153 : decode cX7_chimneyItem 153 = .ok (.iload 6, 2) := by decide +kernel
theorem dX7_chimneyItem_155 : decode cX7_chimneyItem 155 = .ok (.bipush 23, 2) := by decide +kernel
theorem dX7_chimneyItem_157 : decode cX7_chimneyItem 157 = .ok (.iconst 0, 1) := by decide +kernel
theorem dX7_chimneyItem_158 : decode cX7_chimneyItem 158 = .ok (.invokevirtual 259, 3) := by decide +kernel
theorem dX7_chimneyItem_161 : decode cX7_chimneyItem 161 = .ok (.istore 7, 2) := by decide +kernel
theorem dX7_chimneyItem_163 : decode cX7_chimneyItem 163 = .ok (.bipush 24, 2) := by decide +kernel
theorem dX7_chimneyItem_165 : decode cX7_chimneyItem 165 = .ok (.istore 8, 2) := by decide +kernel
theorem dX7_chimneyItem_167 : decode cX7_chimneyItem 167 = .ok (.iload 6, 2) := by decide +kernel
theorem dX7_chimneyItem_169 : decode cX7_chimneyItem 169 = .ok (.ifCond .eq 36, 3) := by decide +kernel
theorem dX7_chimneyItem_172 : decode cX7_chimneyItem 172 = .ok (.aload_n 0, 1) := by decide +kernel
theorem dX7_chimneyItem_173 : decode cX7_chimneyItem 173 = .ok (.aload_n 0, 1) := by decide +kernel
theorem dX7_chimneyItem_174 : decode cX7_chimneyItem 174 = .ok (.invokevirtual 233, 3) := by decide +kernel
theorem dX7_chimneyItem_177 : decode cX7_chimneyItem 177 = .ok (.ldc2_w 267, 3) := by decide +kernel
theorem dX7_chimneyItem_180 : decode cX7_chimneyItem 180 = .ok (.lcmp, 1) := by decide +kernel
theorem dX7_chimneyItem_181 : decode cX7_chimneyItem 181 = .ok (.ifCond .ne 7, 3) := by decide +kernel
theorem dX7_chimneyItem_184 : decode cX7_chimneyItem 184 = .ok (.iconst 1, 1) := by decide +kernel
theorem dX7_chimneyItem_185 : decode cX7_chimneyItem 185 = .ok (.goto 4, 3) := by decide +kernel
theorem dX7_chimneyItem_188 : decode cX7_chimneyItem 188 = .ok (.iconst 0, 1) := by decide +kernel
theorem dX7_chimneyItem_189 : decode cX7_chimneyItem 189 = .ok (.invokevirtual 229, 3) := by decide +kernel
theorem dX7_chimneyItem_192 : decode cX7_chimneyItem 192 = .ok (.aload_n 0, 1) := by decide +kernel
theorem dX7_chimneyItem_193 : decode cX7_chimneyItem 193 = .ok (.iconst 0, 1) := by decide +kernel
theorem dX7_chimneyItem_194 : decode cX7_chimneyItem 194 = .ok (.bipush 24, 2) := by decide +kernel
theorem dX7_chimneyItem_196 : decode cX7_chimneyItem 196 = .ok (.invokevirtual 251, 3) := by decide +kernel
theorem dX7_chimneyItem_199 : decode cX7_chimneyItem 199 = .ok (.aload_n 0, 1) := by decide +kernel
theorem dX7_chimneyItem_200 : decode cX7_chimneyItem 200 = .ok (.getfield 226, 3) := by decide +kernel
theorem dX7_chimneyItem_203 : decode cX7_chimneyItem 203 = .ok (.istore 8, 2) := by decide +kernel
theorem dX7_chimneyItem_205 : decode cX7_chimneyItem 205 = .ok (.aload_n 0, 1) := by decide +kernel
theorem dX7_chimneyItem_206 : decode cX7_chimneyItem 206 = .ok (.getfield 216, 3) := by decide +kernel
theorem dX7_chimneyItem_209 : decode cX7_chimneyItem 209 = .ok (.ifCond .ne 65, 3) := by decide +kernel
theorem dX7_chimneyItem_212 : decode cX7_chimneyItem 212 = .ok (.aload_n 0, 1) := by decide +kernel
theorem dX7_chimneyItem_213 : decode cX7_chimneyItem 213 = .ok (.iload_n 1, 1) := by decide +kernel
theorem dX7_chimneyItem_214 : decode cX7_chimneyItem 214 = .ok (.iload_n 2, 1) := by decide +kernel
theorem dX7_chimneyItem_215 : decode cX7_chimneyItem 215 = .ok (.iload_n 3, 1) := by decide +kernel
theorem dX7_chimneyItem_216 : decode cX7_chimneyItem 216 = .ok (.invokevirtual 83, 3) := by decide +kernel
theorem dX7_chimneyItem_219 : decode cX7_chimneyItem 219 = .ok (.istore 9, 2) := by decide +kernel
theorem dX7_chimneyItem_221 : decode cX7_chimneyItem 221 = .ok (.aload_n 0, 1) := by decide +kernel
theorem dX7_chimneyItem_222 : decode cX7_chimneyItem 222 = .ok (.getfield 7, 3) := by decide +kernel
theorem dX7_chimneyItem_225 : decode cX7_chimneyItem 225 = .ok (.iload 9, 2) := by decide +kernel
theorem dX7_chimneyItem_227 : decode cX7_chimneyItem 227 = .ok (.iconst 3, 1) := by decide +kernel
theorem dX7_chimneyItem_228 : decode cX7_chimneyItem 228 = .ok (.invokestatic 73, 3) := by decide +kernel
theorem dX7_chimneyItem_231 : decode cX7_chimneyItem 231 = .ok (.iload 4, 2) := by decide +kernel
theorem dX7_chimneyItem_233 : decode cX7_chimneyItem 233 = .ok (.iastore, 1) := by decide +kernel
theorem dX7_chimneyItem_234 : decode cX7_chimneyItem 234 = .ok (.aload_n 0, 1) := by decide +kernel
theorem dX7_chimneyItem_235 : decode cX7_chimneyItem 235 = .ok (.getfield 7, 3) := by decide +kernel
theorem dX7_chimneyItem_238 : decode cX7_chimneyItem 238 = .ok (.iload 9, 2) := by decide +kernel
theorem dX7_chimneyItem_240 : decode cX7_chimneyItem 240 = .ok (.iconst 4, 1) := by decide +kernel
theorem dX7_chimneyItem_241 : decode cX7_chimneyItem 241 = .ok (.invokestatic 73, 3) := by decide +kernel
theorem dX7_chimneyItem_244 : decode cX7_chimneyItem 244 = .ok (.iload 5, 2) := by decide +kernel
theorem dX7_chimneyItem_246 : decode cX7_chimneyItem 246 = .ok (.iastore, 1) := by decide +kernel
theorem dX7_chimneyItem_247 : decode cX7_chimneyItem 247 = .ok (.aload_n 0, 1) := by decide +kernel
theorem dX7_chimneyItem_248 : decode cX7_chimneyItem 248 = .ok (.getfield 7, 3) := by decide +kernel
theorem dX7_chimneyItem_251 : decode cX7_chimneyItem 251 = .ok (.iload 9, 2) := by decide +kernel
theorem dX7_chimneyItem_253 : decode cX7_chimneyItem 253 = .ok (.iconst 5, 1) := by decide +kernel
theorem dX7_chimneyItem_254 : decode cX7_chimneyItem 254 = .ok (.invokestatic 73, 3) := by decide +kernel
theorem dX7_chimneyItem_257 : decode cX7_chimneyItem 257 = .ok (.iload 7, 2) := by decide +kernel
theorem dX7_chimneyItem_259 : decode cX7_chimneyItem 259 = .ok (.iastore, 1) := by decide +kernel
theorem dX7_chimneyItem_260 : decode cX7_chimneyItem 260 = .ok (.aload_n 0, 1) := by decide +kernel
theorem dX7_chimneyItem_261 : decode cX7_chimneyItem 261 = .ok (.getfield 7, 3) := by decide +kernel
theorem dX7_chimneyItem_264 : decode cX7_chimneyItem 264 = .ok (.iload 9, 2) := by decide +kernel
theorem dX7_chimneyItem_266 : decode cX7_chimneyItem 266 = .ok (.bipush 6, 2) := by decide +kernel
theorem dX7_chimneyItem_268 : decode cX7_chimneyItem 268 = .ok (.invokestatic 73, 3) := by decide +kernel
theorem dX7_chimneyItem_271 : decode cX7_chimneyItem 271 = .ok (.iload 8, 2) := by decide +kernel
theorem dX7_chimneyItem_273 : decode cX7_chimneyItem 273 = .ok (.iastore, 1) := by decide +kernel
theorem dX7_chimneyItem_274 : decode cX7_chimneyItem 274 = .ok (.return_, 1) := by decide +kernel
theorem dX7_roofItem_0 : decode cX7_roofItem 0 = .ok (.aload_n 0, 1) := by decide +kernel
theorem dX7_roofItem_1 : decode cX7_roofItem 1 = .ok (.iconst 1, 1) := by decide +kernel
theorem dX7_roofItem_2 : decode cX7_roofItem 2 = .ok (.invokevirtual 229, 3) := by decide +kernel
theorem dX7_roofItem_5 : decode cX7_roofItem 5 = .ok (.aload_n 0, 1) := by decide +kernel
theorem dX7_roofItem_6 : decode cX7_roofItem 6 = .ok (.iconst 0, 1) := by decide +kernel
theorem dX7_roofItem_7 : decode cX7_roofItem 7 = .ok (.bipush 35, 2) := by decide +kernel
theorem dX7_roofItem_9 : decode cX7_roofItem 9 = .ok (.invokevirtual 251, 3) := by decide +kernel
theorem dX7_roofItem_12 : decode cX7_roofItem 12 = .ok (.aload_n 0, 1) := by decide +kernel
theorem dX7_roofItem_13 : decode cX7_roofItem 13 = .ok (.getfield 226, 3) := by decide +kernel
theorem dX7_roofItem_16 : decode cX7_roofItem 16 = .ok (.istore_n 1, 1) := by decide +kernel
theorem dX7_roofItem_17 : decode cX7_roofItem 17 = .ok (.aload_n 0, 1) := by decide +kernel
theorem dX7_roofItem_18 : decode cX7_roofItem 18 = .ok (.aload_n 0, 1) := by decide +kernel
theorem dX7_roofItem_19 : decode cX7_roofItem 19 = .ok (.invokevirtual 233, 3) := by decide +kernel
theorem dX7_roofItem_22 : decode cX7_roofItem 22 = .ok (.ldc2_w 253, 3) := by decide +kernel
theorem dX7_roofItem_25 : decode cX7_roofItem 25 = .ok (.lcmp, 1) := by decide +kernel
theorem dX7_roofItem_26 : decode cX7_roofItem 26 = .ok (.ifCond .ne 7, 3) := by decide +kernel
theorem dX7_roofItem_29 : decode cX7_roofItem 29 = .ok (.iconst 1, 1) := by decide +kernel
theorem dX7_roofItem_30 : decode cX7_roofItem 30 = .ok (.goto 4, 3) := by decide +kernel
theorem dX7_roofItem_33 : decode cX7_roofItem 33 = .ok (.iconst 0, 1) := by decide +kernel
theorem dX7_roofItem_34 : decode cX7_roofItem 34 = .ok (.invokevirtual 229, 3) := by decide +kernel
theorem dX7_roofItem_37 : decode cX7_roofItem 37 = .ok (.aload_n 0, 1) := by decide +kernel
theorem dX7_roofItem_38 : decode cX7_roofItem 38 = .ok (.iconst 0, 1) := by decide +kernel
theorem dX7_roofItem_39 : decode cX7_roofItem 39 = .ok (.iconst 5, 1) := by decide +kernel
theorem dX7_roofItem_40 : decode cX7_roofItem 40 = .ok (.invokevirtual 251, 3) := by decide +kernel
theorem dX7_roofItem_43 : decode cX7_roofItem 43 = .ok (.aload_n 0, 1) := by decide +kernel
theorem dX7_roofItem_44 : decode cX7_roofItem 44 = .ok (.getfield 216, 3) := by decide +kernel
theorem dX7_roofItem_47 : decode cX7_roofItem 47 = .ok (.ifCond .ne 15, 3) := by decide +kernel
theorem dX7_roofItem_50 : decode cX7_roofItem 50 = .ok (.aload_n 0, 1) := by decide +kernel
theorem dX7_roofItem_51 : decode cX7_roofItem 51 = .ok (.getfield 7, 3) := by decide +kernel
theorem dX7_roofItem_54 : decode cX7_roofItem 54 = .ok (.iconst 3, 1) := by decide +kernel
theorem dX7_roofItem_55 : decode cX7_roofItem 55 = .ok (.iload_n 1, 1) := by decide +kernel
theorem dX7_roofItem_56 : decode cX7_roofItem 56 = .ok (.iadd, 1) := by decide +kernel
theorem dX7_roofItem_57 : decode cX7_roofItem 57 = .ok (.aload_n 0, 1) := by decide +kernel
theorem dX7_roofItem_58 : decode cX7_roofItem 58 = .ok (.getfield 226, 3) := by decide +kernel
theorem dX7_roofItem_61 : decode cX7_roofItem 61 = .ok (.iastore, 1) := by decide +kernel
theorem dX7_roofItem_62 : decode cX7_roofItem 62 = .ok (.return_, 1) := by decide +kernel
theorem dX7_windItem_0 : decode cX7_windItem 0 = .ok (.aload_n 0, 1) := by decide +kernel
theorem dX7_windItem_1 : decode cX7_windItem 1 = .ok (.aload_n 0, 1) := by decide +kernel
theorem dX7_windItem_2 : decode cX7_windItem 2 = .ok (.invokevirtual 233, 3) := by decide +kernel
theorem dX7_windItem_5 : decode cX7_windItem 5 = .ok (.ldc2_w 269, 3) := by decide +kernel
theorem dX7_windItem_8 : decode cX7_windItem 8 = .ok (.lcmp, 1) := by decide +kernel
theorem dX7_windItem_9 : decode cX7_windItem 9 = .ok (.ifCond .ne 7, 3) := by decide +kernel
theorem dX7_windItem_12 : decode cX7_windItem 12 = .ok (.iconst 1, 1) := by decide +kernel
theorem dX7_windItem_13 : decode cX7_windItem 13 = .ok (.goto 4, 3) := by decide +kernel
theorem dX7_windItem_16 : decode cX7_windItem 16 = .ok (.iconst 0, 1) := by decide +kernel
theorem dX7_windItem_17 : decode cX7_windItem 17 = .ok (.invokevirtual 229, 3) := by decide +kernel
theorem dX7_windItem_20 : decode cX7_windItem 20 = .ok (.aload_n 0, 1) := by decide +kernel
theorem dX7_windItem_21 : decode cX7_windItem 21 = .ok (.iconst 0, 1) := by decide +kernel
theorem dX7_windItem_22 : decode cX7_windItem 22 = .ok (.bipush 23, 2) := by decide +kernel
theorem dX7_windItem_24 : decode cX7_windItem 24 = .ok (.invokevirtual 251, 3) := by decide +kernel
theorem dX7_windItem_27 : decode cX7_windItem 27 = .ok (.aload_n 0, 1) := by decide +kernel
theorem dX7_windItem_28 : decode cX7_windItem 28 = .ok (.getfield 226, 3) := by decide +kernel
theorem dX7_windItem_31 : decode cX7_windItem 31 = .ok (.istore_n 1, 1) := by decide +kernel
theorem dX7_windItem_32 : decode cX7_windItem 32 = .ok (.iconst 1, 1) := by decide +kernel
theorem dX7_windItem_33 : decode cX7_windItem 33 = .ok (.istore_n 2, 1) := by decide +kernel
theorem dX7_windItem_34 : decode cX7_windItem 34 = .ok (.iload_n 2, 1) := by decide +kernel
theorem dX7_windItem_35 : decode cX7_windItem 35 = .ok (.ifCond .eq 64, 3) := by decide +kernel
theorem dX7_windItem_38 : decode cX7_windItem 38 = .ok (.aload_n 0, 1) := by decide +kernel
theorem dX7_windItem_39 : decode cX7_windItem 39 = .ok (.getfield 216, 3) := by decide +kernel
theorem dX7_windItem_42 : decode cX7_windItem 42 = .ok (.ifCond .ne 57, 3) := by decide +kernel
theorem dX7_windItem_45 : decode cX7_windItem 45 = .ok (.aload_n 0, 1) := by decide +kernel
theorem dX7_windItem_46 : decode cX7_windItem 46 = .ok (.iconst 0, 1) := by decide +kernel
theorem dX7_windItem_47 : decode cX7_windItem 47 = .ok (.iload_n 1, 1) := by decide +kernel
theorem dX7_windItem_48 : decode cX7_windItem 48 = .ok (.bipush 23, 2) := by decide +kernel
theorem dX7_windItem_50 : decode cX7_windItem 50 = .ok (.if_icmp .le 7, 3) := by decide +kernel
theorem dX7_windItem_53 : decode cX7_windItem 53 = .ok (.iconst (-1), 1) := by decide +kernel
theorem dX7_windItem_54 : decode cX7_windItem 54 = .ok (.goto 4, 3) := by decide +kernel
theorem dX7_windItem_57 : decode cX7_windItem 57 = .ok (.iconst 4, 1) := by decide +kernel
theorem dX7_windItem_58 : decode cX7_windItem 58 = .ok (.invokevirtual 251, 3) := by decide +kernel
theorem dX7_windItem_61 : decode cX7_windItem 61 = .ok (.aload_n 0, 1) := by decide +kernel
theorem dX7_windItem_62 : decode cX7_windItem 62 = .ok (.getfield 216, 3) := by decide +kernel
theorem dX7_windItem_65 : decode cX7_windItem 65 = .ok (.ifCond .ne (-31), 3) := by decide +kernel
theorem dX7_windItem_68 : decode cX7_windItem 68 = .ok (.aload_n 0, 1) := by decide +kernel
theorem dX7_windItem_69 : decode cX7_windItem 69 = .ok (.getfield 7, 3) := by decide +kernel
theorem dX7_windItem_72 : decode cX7_windItem 72 = .ok (.bipush 39, 2) := by decide +kernel
theorem dX7_windItem_74 : decode cX7_windItem 74 = .ok (.iload_n 1, 1) := by decide +kernel
theorem dX7_windItem_75 : decode cX7_windItem 75 = .ok (.iadd, 1) := by decide +kernel
theorem dX7_windItem_76 : decode cX7_windItem 76 = .ok (.aload_n 0, 1) := by decide +kernel
theorem dX7_windItem_77 : decode cX7_windItem 77 = .ok (.getfield 226, 3) := by decide +kernel
theorem dX7_windItem_80 : decode cX7_windItem 80 = .ok (.iastore, 1) := by decide +kernel
theorem dX7_windItem_81 : decode cX7_windItem 81 = .ok (.iinc 1 1, 3) := by decide +kernel
theorem dX7_windItem_84 : decode cX7_windItem 84 = .ok (.aload_n 0, 1) := by decide +kernel
theorem dX7_windItem_85 : decode cX7_windItem 85 = .ok (.aload_n 0, 1) := by decide +kernel
theorem dX7_windItem_86 : decode cX7_windItem 86 = .ok (.getfield 204, 3) := by decide +kernel
theorem dX7_windItem_89 : decode cX7_windItem 89 = .ok (.invokevirtual 207, 3) := by decide +kernel
theorem dX7_windItem_92 : decode cX7_windItem 92 = .ok (.invokestatic 213, 3) := by decide +kernel
theorem dX7_windItem_95 : decode cX7_windItem 95 = .ok (.istore_n 2, 1) := by decide +kernel
theorem dX7_windItem_96 : decode cX7_windItem 96 = .ok (.goto (-62), 3) := by decide +kernel
theorem dX7_windItem_99 : decode cX7_windItem 99 = .ok (.return_, 1) := by decide +kernel
theorem dX7_item_0 : decode cX7_item 0 = .ok (.aload_n 0, 1) := by decide +kernel
theorem dX7_item_1 : decode cX7_item 1 = .ok (.invokevirtual 271, 3) := by decide +kernel
theorem dX7_item_4 : decode cX7_item 4 = .ok (.istore_n 1, 1) := by decide +kernel
theorem dX7_item_5 : decode cX7_item 5 = .ok (.iload_n 1, 1) := by decide +kernel
theorem dX7_item_6 : decode cX7_item 6 = .ok (.ifCond .lt 11, 3) := by decide +kernel
theorem dX7_item_9 : decode cX7_item 9 = .ok (.aload_n 0, 1) := by decide +kernel
theorem dX7_item_10 : decode cX7_item 10 = .ok (.iload_n 1, 1) := by decide +kernel
theorem dX7_item_11 : decode cX7_item 11 = .ok (.invokevirtual 274, 3) := by decide +kernel
theorem dX7_item_14 : decode cX7_item 14 = .ok (.goto 25, 3) := by decide +kernel
theorem dX7_item_17 : decode cX7_item 17 = .ok (.aload_n 0, 1) := by decide +kernel
theorem dX7_item_18 : decode cX7_item 18 = .ok (.invokevirtual 233, 3) := by decide +kernel
theorem dX7_item_21 : decode cX7_item 21 = .ok (.ldc2_w 278, 3) := by decide +kernel
theorem dX7_item_24 : decode cX7_item 24 = .ok (.lcmp, 1) := by decide +kernel
theorem dX7_item_25 : decode cX7_item 25 = .ok (.ifCond .ne 10, 3) := by decide +kernel
theorem dX7_item_28 : decode cX7_item 28 = .ok (.aload_n 0, 1) := by decide +kernel
theorem dX7_item_29 : decode cX7_item 29 = .ok (.invokevirtual 280, 3) := by decide +kernel
theorem dX7_item_32 : decode cX7_item 32 = .ok (.goto 7, 3) := by decide +kernel
theorem dX7_item_35 : decode cX7_item 35 = .ok (.aload_n 0, 1) := by decide +kernel
theorem dX7_item_36 : decode cX7_item 36 = .ok (.invokevirtual 283, 3) := by decide +kernel
theorem dX7_item_39 : decode cX7_item 39 = .ok (.return_, 1) := by decide +kernel
theorem dX7_text_0 : decode cX7_text 0 = .ok (.aload_n 0, 1) := by decide +kernel
theorem dX7_text_1 : decode cX7_text 1 = .ok (.invokevirtual 157, 3) := by decide +kernel
theorem dX7_text_4 : decode cX7_text 4 = .ok (.aload_n 0, 1) := by decide +kernel
theorem dX7_text_5 : decode cX7_text 5 = .ok (.iconst 0, 1) := by decide +kernel
theorem dX7_text_6 : decode cX7_text 6 = .ok (.putfield 201, 3) := by decide +kernel
theorem dX7_text_9 : decode cX7_text 9 = .ok (.aload_n 0, 1) := by decide +kernel
theorem dX7_text_10 : decode cX7_text 10 = .ok (.iconst 0, 1) := by decide +kernel
theorem dX7_text_11 : decode cX7_text 11 = .ok (.putfield 216, 3) := by decide +kernel
theorem dX7_text_14 : decode cX7_text 14 = .ok (.aload_n 0, 1) := by decide +kernel
theorem dX7_text_15 : decode cX7_text 15 = .ok (.invokevirtual 219, 3) := by decide +kernel
theorem dX7_text_18 : decode cX7_text 18 = .ok (.iconst 1, 1) := by decide +kernel
theorem dX7_text_19 : decode cX7_text 19 = .ok (.istore_n 1, 1) := by decide +kernel
theorem dX7_text_20 : decode cX7_text 20 = .ok (.aload_n 0, 1) := by decide +kernel
theorem dX7_text_21 : decode cX7_text 21 = .ok (.invokevirtual 286, 3) := by decide +kernel
theorem dX7_text_24 : decode cX7_text 24 = .ok (.aload_n 0, 1) := by decide +kernel
theorem dX7_text_25 : decode cX7_text 25 = .ok (.getfield 216, 3) := by decide +kernel
theorem dX7_text_28 : decode cX7_text 28 = .ok (.ifCond .ne 46, 3) := by decide +kernel
theorem dX7_text_31 : decode cX7_text 31 = .ok (.aload_n 0, 1) := by decide +kernel
theorem dX7_text_32 : decode cX7_text 32 = .ok (.getfield 204, 3) := by decide +kernel
theorem dX7_text_35 : decode cX7_text 35 = .ok (.aload_n 0, 1) := by decide +kernel
theorem dX7_text_36 : decode cX7_text 36 = .ok (.getfield 192, 3) := by decide +kernel
theorem dX7_text_39 : decode cX7_text 39 = .ok (.if_icmp .ge 35, 3) := by decide +kernel
theorem dX7_text_42 : decode cX7_text 42 = .ok (.aload_n 0, 1) := by decide +kernel
theorem dX7_text_43 : decode cX7_text 43 = .ok (.aload_n 0, 1) := by decide +kernel
theorem dX7_text_44 : decode cX7_text 44 = .ok (.aload_n 0, 1) := by decide +kernel
theorem dX7_text_45 : decode cX7_text 45 = .ok (.getfield 204, 3) := by decide +kernel
theorem dX7_text_48 : decode cX7_text 48 = .ok (.invokevirtual 207, 3) := by decide +kernel
theorem dX7_text_51 : decode cX7_text 51 = .ok (.bipush 59, 2) := by decide +kernel
theorem dX7_text_53 : decode cX7_text 53 = .ok (.if_icmp .ne 7, 3) := by decide +kernel
theorem dX7_text_56 : decode cX7_text 56 = .ok (.iconst 1, 1) := by decide +kernel
theorem dX7_text_57 : decode cX7_text 57 = .ok (.goto 4, 3) := by decide +kernel
theorem dX7_text_60 : decode cX7_text 60 = .ok (.iconst 0, 1) := by decide +kernel
theorem dX7_text_61 : decode cX7_text 61 = .ok (.invokevirtual 229, 3) := by decide +kernel
theorem dX7_text_64 : decode cX7_text 64 = .ok (.aload_n 0, 1) := by decide +kernel
theorem dX7_text_65 : decode cX7_text 65 = .ok (.invokevirtual 286, 3) := by decide +kernel
theorem dX7_text_68 : decode cX7_text 68 = .ok (.iinc 1 1, 3) := by decide +kernel
theorem dX7_text_71 : decode cX7_text 71 = .ok (.goto (-47), 3) := by decide +kernel
theorem dX7_text_74 : decode cX7_text 74 = .ok (.aload_n 0, 1) := by decide +kernel
theorem dX7_text_75 : decode cX7_text 75 = .ok (.iconst 0, 1) := by decide +kernel
theorem dX7_text_76 : decode cX7_text 76 = .ok (.putfield 192, 3) := by decide +kernel
theorem dX7_text_79 : decode cX7_text 79 = .ok (.aload_n 0, 1) := by decide +kernel
theorem dX7_text_80 : decode cX7_text 80 = .ok (.getfield 216, 3) := by decide +kernel
theorem dX7_text_83 : decode cX7_text 83 = .ok (.ifCond .eq 14, 3) := by decide +kernel
theorem dX7_text_86 : decode cX7_text 86 = .ok (.aload_n 0, 1) := by decide +kernel
theorem dX7_text_87 : decode cX7_text 87 = .ok (.invokevirtual 163, 3) := by decide +kernel
theorem dX7_text_90 : decode cX7_text 90 = .ok (.iconst (-1), 1) := by decide +kernel
theorem dX7_text_91 : decode cX7_text 91 = .ok (.aload_n 0, 1) := by decide +kernel
theorem dX7_text_92 : decode cX7_text 92 = .ok (.getfield 204, 3) := by decide +kernel
theorem dX7_text_95 : decode cX7_text 95 = .ok (.isub, 1) := by decide +kernel
theorem dX7_text_96 : decode cX7_text 96 = .ok (.ireturn, 1) := by decide +kernel
theorem dX7_text_97 : decode cX7_text 97 = .ok (.iload_n 1, 1) := by decide +kernel
theorem dX7_text_98 : decode cX7_text 98 = .ok (.ireturn, 1) := by decide +kernel
theorem dX7_hold_0 : decode cX7_hold 0 = .ok (.iload_n 1, 1) := by decide +kernel
theorem dX7_hold_1 : decode cX7_hold 1 = .ok (.i2l, 1) := by decide +kernel
theorem dX7_hold_2 : decode cX7_hold 2 = .ok (.lconst 0, 1) := by decide +kernel
theorem dX7_hold_3 : decode cX7_hold 3 = .ok (.ldc2_w 100, 3) := by decide +kernel
theorem dX7_hold_6 : decode cX7_hold 6 = .ok (.invokestatic 49, 3) := by decide +kernel
theorem dX7_hold_9 : decode cX7_hold 9 = .ok (.ifCond .eq 16, 3) := by decide +kernel
theorem dX7_hold_12 : decode cX7_hold 12 = .ok (.iload_n 2, 1) := by decide +kernel
theorem dX7_hold_13 : decode cX7_hold 13 = .ok (.iconst (-1), 1) := by decide +kernel
theorem dX7_hold_14 : decode cX7_hold 14 = .ok (.if_icmp .eq 18, 3) := by decide +kernel
theorem dX7_hold_17 : decode cX7_hold 17 = .ok (.aload_n 0, 1) := by decide +kernel
theorem dX7_hold_18 : decode cX7_hold 18 = .ok (.iload_n 2, 1) := by decide +kernel
theorem dX7_hold_19 : decode cX7_hold 19 = .ok (.invokevirtual 97, 3) := by decide +kernel
theorem dX7_hold_22 : decode cX7_hold 22 = .ok (.ifCond .ne 10, 3) := by decide +kernel
theorem dX7_hold_25 : decode cX7_hold 25 = .ok (.aload_n 0, 1) := by decide +kernel
theorem dX7_hold_26 : decode cX7_hold 26 = .ok (.ldc 46, 2) := by decide +kernel
theorem dX7_hold_28 : decode cX7_hold 28 = .ok (.invokevirtual 64, 3) := by decide +kernel
theorem dX7_hold_31 : decode cX7_hold 31 = .ok (.ireturn, 1) := by decide +kernel
theorem dX7_hold_32 : decode cX7_hold 32 = .ok (.aload_n 0, 1) := by decide +kernel
theorem dX7_hold_33 : decode cX7_hold 33 = .ok (.getfield 7, 3) := by decide +kernel
theorem dX7_hold_36 : decode cX7_hold 36 = .ok (.sipush 725, 3) := by decide +kernel
theorem dX7_hold_39 : decode cX7_hold 39 = .ok (.iload_n 1, 1) := by decide +kernel
theorem dX7_hold_40 : decode cX7_hold 40 = .ok (.iadd, 1) := by decide +kernel
theorem dX7_hold_41 : decode cX7_hold 41 = .ok (.iload_n 2, 1) := by decide +kernel
theorem dX7_hold_42 : decode cX7_hold 42 = .ok (.iastore, 1) := by decide +kernel
theorem dX7_hold_43 : decode cX7_hold 43 = .ok (.iconst 1, 1) := by decide +kernel
theorem dX7_hold_44 : decode cX7_hold 44 = .ok (.ireturn, 1) := by decide +kernel
theorem dX7_as_0 : decode cX7_as 0 = .ok (.iload_n 1, 1) := by decide +kernel
theorem dX7_as_1 : decode cX7_as 1 = .ok (.i2l, 1) := by decide +kernel
theorem dX7_as_2 : decode cX7_as 2 = .ok (.lconst 0, 1) := by decide +kernel
theorem dX7_as_3 : decode cX7_as 3 = .ok (.ldc2_w 100, 3) := by decide +kernel
theorem dX7_as_6 : decode cX7_as 6 = .ok (.invokestatic 49, 3) := by decide +kernel
theorem dX7_as_9 : decode cX7_as 9 = .ok (.ifCond .eq 15, 3) := by decide +kernel
theorem dX7_as_12 : decode cX7_as 12 = .ok (.iload_n 2, 1) := by decide +kernel
theorem dX7_as_13 : decode cX7_as 13 = .ok (.i2l, 1) := by decide +kernel
theorem dX7_as_14 : decode cX7_as 14 = .ok (.lconst 0, 1) := by decide +kernel
theorem dX7_as_15 : decode cX7_as 15 = .ok (.ldc2_w 77, 3) := by decide +kernel
theorem dX7_as_18 : decode cX7_as 18 = .ok (.invokestatic 49, 3) := by decide +kernel
theorem dX7_as_21 : decode cX7_as 21 = .ok (.ifCond .ne 10, 3) := by decide +kernel
theorem dX7_as_24 : decode cX7_as 24 = .ok (.aload_n 0, 1) := by decide +kernel
theorem dX7_as_25 : decode cX7_as 25 = .ok (.ldc 46, 2) := by decide +kernel
theorem dX7_as_27 : decode cX7_as 27 = .ok (.invokevirtual 64, 3) := by decide +kernel
theorem dX7_as_30 : decode cX7_as 30 = .ok (.ireturn, 1) := by decide +kernel
theorem dX7_as_31 : decode cX7_as 31 = .ok (.aload_n 0, 1) := by decide +kernel
theorem dX7_as_32 : decode cX7_as 32 = .ok (.getfield 7, 3) := by decide +kernel
theorem dX7_as_35 : decode cX7_as 35 = .ok (.sipush 725, 3) := by decide +kernel
theorem dX7_as_38 : decode cX7_as 38 = .ok (.iload_n 1, 1) := by decide +kernel
theorem dX7_as_39 : decode cX7_as 39 = .ok (.iadd, 1) := by decide +kernel
theorem dX7_as_40 : decode cX7_as 40 = .ok (.iaload, 1) := by decide +kernel
theorem dX7_as_41 : decode cX7_as 41 = .ok (.istore_n 3, 1) := by decide +kernel
theorem dX7_as_42 : decode cX7_as 42 = .ok (.iload_n 3, 1) := by decide +kernel
theorem dX7_as_43 : decode cX7_as 43 = .ok (.ifCond .ge 11, 3) := by decide +kernel
theorem dX7_as_46 : decode cX7_as 46 = .ok (.aload_n 0, 1) := by decide +kernel
theorem dX7_as_47 : decode cX7_as 47 = .ok (.ldc_w 289, 3) := by decide +kernel
theorem dX7_as_50 : decode cX7_as 50 = .ok (.invokevirtual 64, 3) := by decide +kernel
theorem dX7_as_53 : decode cX7_as 53 = .ok (.ireturn, 1) := by decide +kernel
theorem dX7_as_54 : decode cX7_as 54 = .ok (.aload_n 0, 1) := by decide +kernel
theorem dX7_as_55 : decode cX7_as 55 = .ok (.iload_n 3, 1) := by decide +kernel
theorem dX7_as_56 : decode cX7_as 56 = .ok (.iload_n 2, 1) := by decide +kernel
theorem dX7_as_57 : decode cX7_as 57 = .ok (.invokevirtual 186, 3) := by decide +kernel
theorem dX7_as_60 : decode cX7_as 60 = .ok (.ifCond .eq 7, 3) := by decide +kernel
theorem dX7_as_63 : decode cX7_as 63 = .ok (.iload_n 3, 1) := by decide +kernel
theorem dX7_as_64 : decode cX7_as 64 = .ok (.goto 10, 3) := by decide +kernel
theorem dX7_as_67 : decode cX7_as 67 = .ok (.aload_n 0, 1) := by decide +kernel
theorem dX7_as_68 : decode cX7_as 68 = .ok (.ldc_w 290, 3) := by decide +kernel
theorem dX7_as_71 : decode cX7_as 71 = .ok (.invokevirtual 64, 3) := by decide +kernel
theorem dX7_as_74 : decode cX7_as 74 = .ok (.ireturn, 1) := by decide +kernel
theorem dX7_isOne_0 : decode cX7_isOne 0 = .ok (.iload_n 0, 1) := by decide +kernel
theorem dX7_isOne_1 : decode cX7_isOne 1 = .ok (.i2l, 1) := by decide +kernel
theorem dX7_isOne_2 : decode cX7_isOne 2 = .ok (.lconst 0, 1) := by decide +kernel
theorem dX7_isOne_3 : decode cX7_isOne 3 = .ok (.ldc2_w 291, 3) := by decide +kernel
theorem dX7_isOne_6 : decode cX7_isOne 6 = .ok (.invokestatic 49, 3) := by decide +kernel
theorem dX7_isOne_9 : decode cX7_isOne 9 = .ok (.ireturn, 1) := by decide +kernel
theorem dX7_sheet_0 : decode cX7_sheet 0 = .ok (.iload_n 1, 1) := by decide +kernel
theorem dX7_sheet_1 : decode cX7_sheet 1 = .ok (.invokestatic 293, 3) := by decide +kernel
theorem dX7_sheet_4 : decode cX7_sheet 4 = .ok (.ifCond .eq 25, 3) := by decide +kernel
theorem dX7_sheet_7 : decode cX7_sheet 7 = .ok (.iload_n 2, 1) := by decide +kernel
theorem dX7_sheet_8 : decode cX7_sheet 8 = .ok (.ifCond .eq 28, 3) := by decide +kernel
theorem dX7_sheet_11 : decode cX7_sheet 11 = .ok (.iload_n 2, 1) := by decide +kernel
theorem dX7_sheet_12 : decode cX7_sheet 12 = .ok (.bipush 8, 2) := by decide +kernel
theorem dX7_sheet_14 : decode cX7_sheet 14 = .ok (.if_icmp .eq 22, 3) := by decide +kernel
theorem dX7_sheet_17 : decode cX7_sheet 17 = .ok (.iload_n 2, 1) := by decide +kernel
theorem dX7_sheet_18 : decode cX7_sheet 18 = .ok (.bipush 16, 2) := by decide +kernel
theorem dX7_sheet_20 : decode cX7_sheet 20 = .ok (.if_icmp .eq 16, 3) := by decide +kernel
theorem dX7_sheet_23 : decode cX7_sheet 23 = .ok (.iload_n 2, 1) := by decide +kernel
theorem dX7_sheet_24 : decode cX7_sheet 24 = .ok (.bipush 32, 2) := by decide +kernel
theorem dX7_sheet_26 : decode cX7_sheet 26 = .ok (.if_icmp .eq 10, 3) := by decide +kernel
theorem dX7_sheet_29 : decode cX7_sheet 29 = .ok (.aload_n 0, 1) := by decide +kernel
theorem dX7_sheet_30 : decode cX7_sheet 30 = .ok (.ldc 46, 2) := by decide +kernel
theorem dX7_sheet_32 : decode cX7_sheet 32 = .ok (.invokevirtual 64, 3) := by decide +kernel
theorem dX7_sheet_35 : decode cX7_sheet 35 = .ok (.ireturn, 1) := by decide +kernel
theorem dX7_sheet_36 : decode cX7_sheet 36 = .ok (.iload_n 3, 1) := by decide +kernel
theorem dX7_sheet_37 : decode cX7_sheet 37 = .ok (.ifCond .ge 11, 3) := by decide +kernel
theorem dX7_sheet_40 : decode cX7_sheet 40 = .ok (.aload_n 0, 1) := by decide +kernel
theorem dX7_sheet_41 : decode cX7_sheet 41 = .ok (.ldc_w 296, 3) := by decide +kernel
theorem dX7_sheet_44 : decode cX7_sheet 44 = .ok (.invokevirtual 64, 3) := by decide +kernel
theorem dX7_sheet_47 : decode cX7_sheet 47 = .ok (.ireturn, 1) := by decide +kernel
theorem dX7_sheet_48 : decode cX7_sheet 48 = .ok (.iload_n 3, 1) := by decide +kernel
theorem dX7_sheet_49 : decode cX7_sheet 49 = .ok (.bipush 40, 2) := by decide +kernel
theorem dX7_sheet_51 : decode cX7_sheet 51 = .ok (.if_icmp .le 10, 3) := by decide +kernel
theorem dX7_sheet_54 : decode cX7_sheet 54 = .ok (.aload_n 0, 1) := by decide +kernel
theorem dX7_sheet_55 : decode cX7_sheet 55 = .ok (.ldc 46, 2) := by decide +kernel
theorem dX7_sheet_57 : decode cX7_sheet 57 = .ok (.invokevirtual 64, 3) := by decide +kernel
theorem dX7_sheet_60 : decode cX7_sheet 60 = .ok (.ireturn, 1) := by decide +kernel
theorem dX7_sheet_61 : decode cX7_sheet 61 = .ok (.aload_n 0, 1) := by decide +kernel
theorem dX7_sheet_62 : decode cX7_sheet 62 = .ok (.getfield 34, 3) := by decide +kernel
theorem dX7_sheet_65 : decode cX7_sheet 65 = .ok (.iload_n 1, 1) := by decide +kernel
theorem dX7_sheet_66 : decode cX7_sheet 66 = .ok (.iload_n 2, 1) := by decide +kernel
theorem dX7_sheet_67 : decode cX7_sheet 67 = .ok (.iastore, 1) := by decide +kernel
theorem dX7_sheet_68 : decode cX7_sheet 68 = .ok (.aload_n 0, 1) := by decide +kernel
theorem dX7_sheet_69 : decode cX7_sheet 69 = .ok (.getfield 37, 3) := by decide +kernel
theorem dX7_sheet_72 : decode cX7_sheet 72 = .ok (.iload_n 1, 1) := by decide +kernel
theorem dX7_sheet_73 : decode cX7_sheet 73 = .ok (.iload_n 2, 1) := by decide +kernel
theorem dX7_sheet_74 : decode cX7_sheet 74 = .ok (.ifCond .ne 7, 3) := by decide +kernel
theorem dX7_sheet_77 : decode cX7_sheet 77 = .ok (.iconst 0, 1) := by decide +kernel
theorem dX7_sheet_78 : decode cX7_sheet 78 = .ok (.goto 4, 3) := by decide +kernel
theorem dX7_sheet_81 : decode cX7_sheet 81 = .ok (.iload_n 3, 1) := by decide +kernel
theorem dX7_sheet_82 : decode cX7_sheet 82 = .ok (.iastore, 1) := by decide +kernel
theorem dX7_sheet_83 : decode cX7_sheet 83 = .ok (.iconst 0, 1) := by decide +kernel
theorem dX7_sheet_84 : decode cX7_sheet 84 = .ok (.istore 4, 2) := by decide +kernel
theorem dX7_sheet_86 : decode cX7_sheet 86 = .ok (.iload 4, 2) := by decide +kernel
theorem dX7_sheet_88 : decode cX7_sheet 88 = .ok (.bipush 40, 2) := by decide +kernel
theorem dX7_sheet_90 : decode cX7_sheet 90 = .ok (.if_icmp .ge 22, 3) := by decide +kernel
theorem dX7_sheet_93 : decode cX7_sheet 93 = .ok (.aload_n 0, 1) := by decide +kernel
theorem dX7_sheet_94 : decode cX7_sheet 94 = .ok (.getfield 40, 3) := by decide +kernel
theorem dX7_sheet_97 : decode cX7_sheet 97 = .ok (.bipush 40, 2) := by decide +kernel
theorem dX7_sheet_99 : decode cX7_sheet 99 = .ok (.iload_n 1, 1) := by decide +kernel
theorem dX7_sheet_100 : decode cX7_sheet 100 = .ok (.imul, 1) := by decide +kernel
theorem dX7_sheet_101 : decode cX7_sheet 101 = .ok (.iload 4, 2) := by decide +kernel
theorem dX7_sheet_103 : decode cX7_sheet 103 = .ok (.iadd, 1) := by decide +kernel
theorem dX7_sheet_104 : decode cX7_sheet 104 = .ok (.iconst 0, 1) := by decide +kernel
theorem dX7_sheet_105 : decode cX7_sheet 105 = .ok (.iastore, 1) := by decide +kernel
theorem dX7_sheet_106 : decode cX7_sheet 106 = .ok (.iinc 4 1, 3) := by decide +kernel
theorem dX7_sheet_109 : decode cX7_sheet 109 = .ok (.goto (-23), 3) := by decide +kernel
theorem dX7_sheet_112 : decode cX7_sheet 112 = .ok (.aload_n 0, 1) := by decide +kernel
theorem dX7_sheet_113 : decode cX7_sheet 113 = .ok (.getfield 37, 3) := by decide +kernel
theorem dX7_sheet_116 : decode cX7_sheet 116 = .ok (.iload_n 1, 1) := by decide +kernel
theorem dX7_sheet_117 : decode cX7_sheet 117 = .ok (.iaload, 1) := by decide +kernel
theorem dX7_sheet_118 : decode cX7_sheet 118 = .ok (.ireturn, 1) := by decide +kernel
theorem dX7_narrowed_0 : decode cX7_narrowed 0 = .ok (.iload_n 0, 1) := by decide +kernel
theorem dX7_narrowed_1 : decode cX7_narrowed 1 = .ok (.bipush 8, 2) := by decide +kernel
theorem dX7_narrowed_3 : decode cX7_narrowed 3 = .ok (.if_icmp .ne 8, 3) := by decide +kernel
theorem dX7_narrowed_6 : decode cX7_narrowed 6 = .ok (.iload_n 1, 1) := by decide +kernel
theorem dX7_narrowed_7 : decode cX7_narrowed 7 = .ok (.i2b, 1) := by decide +kernel
theorem dX7_narrowed_8 : decode cX7_narrowed 8 = .ok (.goto 15, 3) := by decide +kernel
theorem dX7_narrowed_11 : decode cX7_narrowed 11 = .ok (.iload_n 0, 1) := by decide +kernel
theorem dX7_narrowed_12 : decode cX7_narrowed 12 = .ok (.bipush 16, 2) := by decide +kernel
theorem dX7_narrowed_14 : decode cX7_narrowed 14 = .ok (.if_icmp .ne 8, 3) := by decide +kernel
theorem dX7_narrowed_17 : decode cX7_narrowed 17 = .ok (.iload_n 1, 1) := by decide +kernel
theorem dX7_narrowed_18 : decode cX7_narrowed 18 = .ok (.i2s, 1) := by decide +kernel
theorem dX7_narrowed_19 : decode cX7_narrowed 19 = .ok (.goto 4, 3) := by decide +kernel
theorem dX7_narrowed_22 : decode cX7_narrowed 22 = .ok (.iload_n 1, 1) := by decide +kernel
theorem dX7_narrowed_23 : decode cX7_narrowed 23 = .ok (.ireturn, 1) := by decide +kernel
theorem dX7_wrong_0 : decode cX7_wrong 0 = .ok (.iload_n 1, 1) := by decide +kernel
theorem dX7_wrong_1 : decode cX7_wrong 1 = .ok (.invokestatic 293, 3) := by decide +kernel
theorem dX7_wrong_4 : decode cX7_wrong 4 = .ok (.ifCond .ne 8, 3) := by decide +kernel
theorem dX7_wrong_7 : decode cX7_wrong 7 = .ok (.ldc 46, 2) := by decide +kernel
theorem dX7_wrong_9 : decode cX7_wrong 9 = .ok (.goto 19, 3) := by decide +kernel
theorem dX7_wrong_12 : decode cX7_wrong 12 = .ok (.aload_n 0, 1) := by decide +kernel
theorem dX7_wrong_13 : decode cX7_wrong 13 = .ok (.getfield 34, 3) := by decide +kernel
theorem dX7_wrong_16 : decode cX7_wrong 16 = .ok (.iload_n 1, 1) := by decide +kernel
theorem dX7_wrong_17 : decode cX7_wrong 17 = .ok (.iaload, 1) := by decide +kernel
theorem dX7_wrong_18 : decode cX7_wrong 18 = .ok (.ifCond .ne 9, 3) := by decide +kernel
theorem dX7_wrong_21 : decode cX7_wrong 21 = .ok (.ldc_w 289, 3) := by decide +kernel
theorem dX7_wrong_24 : decode cX7_wrong 24 = .ok (.goto 4, 3) := by decide +kernel
theorem dX7_wrong_27 : decode cX7_wrong 27 = .ok (.iconst 0, 1) := by decide +kernel
theorem dX7_wrong_28 : decode cX7_wrong 28 = .ok (.ireturn, 1) := by decide +kernel
theorem dX7_write_0 : decode cX7_write 0 = .ok (.aload_n 0, 1) := by decide +kernel
theorem dX7_write_1 : decode cX7_write 1 = .ok (.iload_n 1, 1) := by decide +kernel
theorem dX7_write_2 : decode cX7_write 2 = .ok (.invokevirtual 297, 3) := by decide +kernel
theorem dX7_write_5 : decode cX7_write 5 = .ok (.istore 4, 2) := by decide +kernel
theorem dX7_write_7 : decode cX7_write 7 = .ok (.iload 4, 2) := by decide +kernel
theorem dX7_write_9 : decode cX7_write 9 = .ok (.ifCond .eq 10, 3) := by decide +kernel
theorem dX7_write_12 : decode cX7_write 12 = .ok (.aload_n 0, 1) := by decide +kernel
theorem dX7_write_13 : decode cX7_write 13 = .ok (.iload 4, 2) := by decide +kernel
theorem dX7_write_15 : decode cX7_write 15 = .ok (.invokevirtual 64, 3) := by decide +kernel
theorem dX7_write_18 : decode cX7_write 18 = .ok (.ireturn, 1) := by decide +kernel
theorem dX7_write_19 : decode cX7_write 19 = .ok (.iload_n 2, 1) := by decide +kernel
theorem dX7_write_20 : decode cX7_write 20 = .ok (.i2l, 1) := by decide +kernel
theorem dX7_write_21 : decode cX7_write 21 = .ok (.lconst 0, 1) := by decide +kernel
theorem dX7_write_22 : decode cX7_write 22 = .ok (.aload_n 0, 1) := by decide +kernel
theorem dX7_write_23 : decode cX7_write 23 = .ok (.getfield 37, 3) := by decide +kernel
theorem dX7_write_26 : decode cX7_write 26 = .ok (.iload_n 1, 1) := by decide +kernel
theorem dX7_write_27 : decode cX7_write 27 = .ok (.iaload, 1) := by decide +kernel
theorem dX7_write_28 : decode cX7_write 28 = .ok (.iconst 1, 1) := by decide +kernel
theorem dX7_write_29 : decode cX7_write 29 = .ok (.isub, 1) := by decide +kernel
theorem dX7_write_30 : decode cX7_write 30 = .ok (.i2l, 1) := by decide +kernel
theorem dX7_write_31 : decode cX7_write 31 = .ok (.invokestatic 49, 3) := by decide +kernel
theorem dX7_write_34 : decode cX7_write 34 = .ok (.ifCond .ne 10, 3) := by decide +kernel
theorem dX7_write_37 : decode cX7_write 37 = .ok (.aload_n 0, 1) := by decide +kernel
theorem dX7_write_38 : decode cX7_write 38 = .ok (.ldc 46, 2) := by decide +kernel
theorem dX7_write_40 : decode cX7_write 40 = .ok (.invokevirtual 64, 3) := by decide +kernel
theorem dX7_write_43 : decode cX7_write 43 = .ok (.ireturn, 1) := by decide +kernel
theorem dX7_write_44 : decode cX7_write 44 = .ok (.aload_n 0, 1) := by decide +kernel
theorem dX7_write_45 : decode cX7_write 45 = .ok (.getfield 40, 3) := by decide +kernel
theorem dX7_write_48 : decode cX7_write 48 = .ok (.bipush 40, 2) := by decide +kernel
theorem dX7_write_50 : decode cX7_write 50 = .ok (.iload_n 1, 1) := by decide +kernel
theorem dX7_write_51 : decode cX7_write 51 = .ok (.imul, 1) := by decide +kernel
theorem dX7_write_52 : decode cX7_write 52 = .ok (.iload_n 2, 1) := by decide +kernel
theorem dX7_write_53 : decode cX7_write 53 = .ok (.iadd, 1) := by decide +kernel
theorem dX7_write_54 : decode cX7_write 54 = .ok (.aload_n 0, 1) := by decide +kernel
theorem dX7_write_55 : decode cX7_write 55 = .ok (.getfield 34, 3) := by decide +kernel
theorem dX7_write_58 : decode cX7_write 58 = .ok (.iload_n 1, 1) := by decide +kernel
theorem dX7_write_59 : decode cX7_write 59 = .ok (.iaload, 1) := by decide +kernel
theorem dX7_write_60 : decode cX7_write 60 = .ok (.iload_n 3, 1) := by decide +kernel
theorem dX7_write_61 : decode cX7_write 61 = .ok (.invokestatic 300, 3) := by decide +kernel
theorem dX7_write_64 : decode cX7_write 64 = .ok (.iastore, 1) := by decide +kernel
theorem dX7_write_65 : decode cX7_write 65 = .ok (.iconst 1, 1) := by decide +kernel
theorem dX7_write_66 : decode cX7_write 66 = .ok (.ireturn, 1) := by decide +kernel
theorem dX7_copy_0 : decode cX7_copy 0 = .ok (.iload_n 1, 1) := by decide +kernel
theorem dX7_copy_1 : decode cX7_copy 1 = .ok (.invokestatic 293, 3) := by decide +kernel
theorem dX7_copy_4 : decode cX7_copy 4 = .ok (.ifCond .eq 10, 3) := by decide +kernel
theorem dX7_copy_7 : decode cX7_copy 7 = .ok (.iload_n 3, 1) := by decide +kernel
theorem dX7_copy_8 : decode cX7_copy 8 = .ok (.invokestatic 293, 3) := by decide +kernel
theorem dX7_copy_11 : decode cX7_copy 11 = .ok (.ifCond .ne 10, 3) := by decide +kernel
theorem dX7_copy_14 : decode cX7_copy 14 = .ok (.aload_n 0, 1) := by decide +kernel
theorem dX7_copy_15 : decode cX7_copy 15 = .ok (.ldc 46, 2) := by decide +kernel
theorem dX7_copy_17 : decode cX7_copy 17 = .ok (.invokevirtual 64, 3) := by decide +kernel
theorem dX7_copy_20 : decode cX7_copy 20 = .ok (.ireturn, 1) := by decide +kernel
theorem dX7_copy_21 : decode cX7_copy 21 = .ok (.aload_n 0, 1) := by decide +kernel
theorem dX7_copy_22 : decode cX7_copy 22 = .ok (.getfield 34, 3) := by decide +kernel
theorem dX7_copy_25 : decode cX7_copy 25 = .ok (.iload_n 1, 1) := by decide +kernel
theorem dX7_copy_26 : decode cX7_copy 26 = .ok (.iaload, 1) := by decide +kernel
theorem dX7_copy_27 : decode cX7_copy 27 = .ok (.ifCond .eq 12, 3) := by decide +kernel
theorem dX7_copy_30 : decode cX7_copy 30 = .ok (.aload_n 0, 1) := by decide +kernel
theorem dX7_copy_31 : decode cX7_copy 31 = .ok (.getfield 34, 3) := by decide +kernel
theorem dX7_copy_34 : decode cX7_copy 34 = .ok (.iload_n 3, 1) := by decide +kernel
theorem dX7_copy_35 : decode cX7_copy 35 = .ok (.iaload, 1) := by decide +kernel
theorem dX7_copy_36 : decode cX7_copy 36 = .ok (.ifCond .ne 11, 3) := by decide +kernel
theorem dX7_copy_39 : decode cX7_copy 39 = .ok (.aload_n 0, 1) := by decide +kernel
theorem dX7_copy_40 : decode cX7_copy 40 = .ok (.ldc_w 289, 3) := by decide +kernel
theorem dX7_copy_43 : decode cX7_copy 43 = .ok (.invokevirtual 64, 3) := by decide +kernel
theorem dX7_copy_46 : decode cX7_copy 46 = .ok (.ireturn, 1) := by decide +kernel
theorem dX7_copy_47 : decode cX7_copy 47 = .ok (.aload_n 0, 1) := by decide +kernel
theorem dX7_copy_48 : decode cX7_copy 48 = .ok (.getfield 34, 3) := by decide +kernel
theorem dX7_copy_51 : decode cX7_copy 51 = .ok (.iload_n 1, 1) := by decide +kernel
theorem dX7_copy_52 : decode cX7_copy 52 = .ok (.iaload, 1) := by decide +kernel
theorem dX7_copy_53 : decode cX7_copy 53 = .ok (.aload_n 0, 1) := by decide +kernel
theorem dX7_copy_54 : decode cX7_copy 54 = .ok (.getfield 34, 3) := by decide +kernel
theorem dX7_copy_57 : decode cX7_copy 57 = .ok (.iload_n 3, 1) := by decide +kernel
theorem dX7_copy_58 : decode cX7_copy 58 = .ok (.iaload, 1) := by decide +kernel
theorem dX7_copy_59 : decode cX7_copy 59 = .ok (.if_icmp .eq 11, 3) := by decide +kernel
theorem dX7_copy_62 : decode cX7_copy 62 = .ok (.aload_n 0, 1) := by decide +kernel
theorem dX7_copy_63 : decode cX7_copy 63 = .ok (.ldc_w 290, 3) := by decide +kernel
theorem dX7_copy_66 : decode cX7_copy 66 = .ok (.invokevirtual 64, 3) := by decide +kernel
theorem dX7_copy_69 : decode cX7_copy 69 = .ok (.ireturn, 1) := by decide +kernel
theorem dX7_copy_70 : decode cX7_copy 70 = .ok (.iload_n 2, 1) := by decide +kernel
theorem dX7_copy_71 : decode cX7_copy 71 = .ok (.ifCond .lt 40, 3) := by decide +kernel
theorem dX7_copy_74 : decode cX7_copy 74 = .ok (.iload 4, 2) := by decide +kernel
theorem dX7_copy_76 : decode cX7_copy 76 = .ok (.ifCond .lt 35, 3) := by decide +kernel
theorem dX7_copy_79 : decode cX7_copy 79 = .ok (.iload 5, 2) := by decide +kernel
theorem dX7_copy_81 : decode cX7_copy 81 = .ok (.ifCond .lt 30, 3) := by decide +kernel
theorem dX7_copy_84 : decode cX7_copy 84 = .ok (.iload 5, 2) := by decide +kernel
theorem dX7_copy_86 : decode cX7_copy 86 = .ok (.aload_n 0, 1) := by decide +kernel
theorem dX7_copy_87 : decode cX7_copy 87 = .ok (.getfield 37, 3) := by decide +kernel
theorem dX7_copy_90 : decode cX7_copy 90 = .ok (.iload_n 1, 1) := by decide +kernel
theorem dX7_copy_91 : decode cX7_copy 91 = .ok (.iaload, 1) := by decide +kernel
theorem dX7_copy_92 : decode cX7_copy 92 = .ok (.iload_n 2, 1) := by decide +kernel
theorem dX7_copy_93 : decode cX7_copy 93 = .ok (.isub, 1) := by decide +kernel
theorem dX7_copy_94 : decode cX7_copy 94 = .ok (.if_icmp .gt 17, 3) := by decide +kernel
theorem dX7_copy_97 : decode cX7_copy 97 = .ok (.iload 5, 2) := by decide +kernel
theorem dX7_copy_99 : decode cX7_copy 99 = .ok (.aload_n 0, 1) := by decide +kernel
theorem dX7_copy_100 : decode cX7_copy 100 = .ok (.getfield 37, 3) := by decide +kernel
theorem dX7_copy_103 : decode cX7_copy 103 = .ok (.iload_n 3, 1) := by decide +kernel
theorem dX7_copy_104 : decode cX7_copy 104 = .ok (.iaload, 1) := by decide +kernel
theorem dX7_copy_105 : decode cX7_copy 105 = .ok (.iload 4, 2) := by decide +kernel
theorem dX7_copy_107 : decode cX7_copy 107 = .ok (.isub, 1) := by decide +kernel
theorem dX7_copy_108 : decode cX7_copy 108 = .ok (.if_icmp .le 10, 3) := by decide +kernel
theorem dX7_copy_111 : decode cX7_copy 111 = .ok (.aload_n 0, 1) := by decide +kernel
theorem dX7_copy_112 : decode cX7_copy 112 = .ok (.ldc 46, 2) := by decide +kernel
theorem dX7_copy_114 : decode cX7_copy 114 = .ok (.invokevirtual 64, 3) := by decide +kernel
theorem dX7_copy_117 : decode cX7_copy 117 = .ok (.ireturn, 1) := by decide +kernel
theorem dX7_copy_118 : decode cX7_copy 118 = .ok (.iconst 0, 1) := by decide +kernel
theorem dX7_copy_119 : decode cX7_copy 119 = .ok (.istore 6, 2) := by decide +kernel
theorem dX7_copy_121 : decode cX7_copy 121 = .ok (.iload 6, 2) := by decide +kernel
theorem dX7_copy_123 : decode cX7_copy 123 = .ok (.iload 5, 2) := by decide +kernel
theorem dX7_copy_125 : decode cX7_copy 125 = .ok (.if_icmp .ge 30, 3) := by decide +kernel
theorem dX7_copy_128 : decode cX7_copy 128 = .ok (.aload_n 0, 1) := by decide +kernel
theorem dX7_copy_129 : decode cX7_copy 129 = .ok (.getfield 43, 3) := by decide +kernel
theorem dX7_copy_132 : decode cX7_copy 132 = .ok (.iload 6, 2) := by decide +kernel
theorem dX7_copy_134 : decode cX7_copy 134 = .ok (.aload_n 0, 1) := by decide +kernel
theorem dX7_copy_135 : decode cX7_copy 135 = .ok (.getfield 40, 3) := by decide +kernel
theorem dX7_copy_138 : decode cX7_copy 138 = .ok (.bipush 40, 2) := by decide +kernel
theorem dX7_copy_140 : decode cX7_copy 140 = .ok (.iload_n 1, 1) := by decide +kernel
theorem dX7_copy_141 : decode cX7_copy 141 = .ok (.imul, 1) := by decide +kernel
theorem dX7_copy_142 : decode cX7_copy 142 = .ok (.iload_n 2, 1) := by decide +kernel
theorem dX7_copy_143 : decode cX7_copy 143 = .ok (.iadd, 1) := by decide +kernel
theorem dX7_copy_144 : decode cX7_copy 144 = .ok (.iload 6, 2) := by decide +kernel
theorem dX7_copy_146 : decode cX7_copy 146 = .ok (.iadd, 1) := by decide +kernel
theorem dX7_copy_147 : decode cX7_copy 147 = .ok (.iaload, 1) := by decide +kernel
theorem dX7_copy_148 : decode cX7_copy 148 = .ok (.iastore, 1) := by decide +kernel
theorem dX7_copy_149 : decode cX7_copy 149 = .ok (.iinc 6 1, 3) := by decide +kernel
theorem dX7_copy_152 : decode cX7_copy 152 = .ok (.goto (-31), 3) := by decide +kernel
theorem dX7_copy_155 : decode cX7_copy 155 = .ok (.iconst 0, 1) := by decide +kernel
theorem dX7_copy_156 : decode cX7_copy 156 = .ok (.istore 6, 2) := by decide +kernel
theorem dX7_copy_158 : decode cX7_copy 158 = .ok (.iload 6, 2) := by decide +kernel
theorem dX7_copy_160 : decode cX7_copy 160 = .ok (.iload 5, 2) := by decide +kernel
theorem dX7_copy_162 : decode cX7_copy 162 = .ok (.if_icmp .ge 31, 3) := by decide +kernel
theorem dX7_copy_165 : decode cX7_copy 165 = .ok (.aload_n 0, 1) := by decide +kernel
theorem dX7_copy_166 : decode cX7_copy 166 = .ok (.getfield 40, 3) := by decide +kernel
theorem dX7_copy_169 : decode cX7_copy 169 = .ok (.bipush 40, 2) := by decide +kernel
theorem dX7_copy_171 : decode cX7_copy 171 = .ok (.iload_n 3, 1) := by decide +kernel
theorem dX7_copy_172 : decode cX7_copy 172 = .ok (.imul, 1) := by decide +kernel
theorem dX7_copy_173 : decode cX7_copy 173 = .ok (.iload 4, 2) := by decide +kernel
theorem dX7_copy_175 : decode cX7_copy 175 = .ok (.iadd, 1) := by decide +kernel
theorem dX7_copy_176 : decode cX7_copy 176 = .ok (.iload 6, 2) := by decide +kernel
theorem dX7_copy_178 : decode cX7_copy 178 = .ok (.iadd, 1) := by decide +kernel
theorem dX7_copy_179 : decode cX7_copy 179 = .ok (.aload_n 0, 1) := by decide +kernel
theorem dX7_copy_180 : decode cX7_copy 180 = .ok (.getfield 43, 3) := by decide +kernel
theorem dX7_copy_183 : decode cX7_copy 183 = .ok (.iload 6, 2) := by decide +kernel
theorem dX7_copy_185 : decode cX7_copy 185 = .ok (.iaload, 1) := by decide +kernel
theorem dX7_copy_186 : decode cX7_copy 186 = .ok (.iastore, 1) := by decide +kernel
theorem dX7_copy_187 : decode cX7_copy 187 = .ok (.iinc 6 1, 3) := by decide +kernel
theorem dX7_copy_190 : decode cX7_copy 190 = .ok (.goto (-32), 3) := by decide +kernel
theorem dX7_copy_193 : decode cX7_copy 193 = .ok (.iload 5, 2) := by decide +kernel
theorem dX7_copy_195 : decode cX7_copy 195 = .ok (.ireturn, 1) := by decide +kernel
theorem dX7_load_0 : decode cX7_load 0 = .ok (.aload_n 0, 1) := by decide +kernel
theorem dX7_load_1 : decode cX7_load 1 = .ok (.iload_n 1, 1) := by decide +kernel
theorem dX7_load_2 : decode cX7_load 2 = .ok (.invokevirtual 297, 3) := by decide +kernel
theorem dX7_load_5 : decode cX7_load 5 = .ok (.istore_n 2, 1) := by decide +kernel
theorem dX7_load_6 : decode cX7_load 6 = .ok (.iload_n 2, 1) := by decide +kernel
theorem dX7_load_7 : decode cX7_load 7 = .ok (.ifCond .eq 9, 3) := by decide +kernel
theorem dX7_load_10 : decode cX7_load 10 = .ok (.aload_n 0, 1) := by decide +kernel
theorem dX7_load_11 : decode cX7_load 11 = .ok (.iload_n 2, 1) := by decide +kernel
theorem dX7_load_12 : decode cX7_load 12 = .ok (.invokevirtual 64, 3) := by decide +kernel
theorem dX7_load_15 : decode cX7_load 15 = .ok (.ireturn, 1) := by decide +kernel
theorem dX7_load_16 : decode cX7_load 16 = .ok (.iconst 0, 1) := by decide +kernel
theorem dX7_load_17 : decode cX7_load 17 = .ok (.istore_n 3, 1) := by decide +kernel
theorem dX7_load_18 : decode cX7_load 18 = .ok (.iload_n 3, 1) := by decide +kernel
theorem dX7_load_19 : decode cX7_load 19 = .ok (.aload_n 0, 1) := by decide +kernel
theorem dX7_load_20 : decode cX7_load 20 = .ok (.getfield 37, 3) := by decide +kernel
theorem dX7_load_23 : decode cX7_load 23 = .ok (.iload_n 1, 1) := by decide +kernel
theorem dX7_load_24 : decode cX7_load 24 = .ok (.iaload, 1) := by decide +kernel
theorem dX7_load_25 : decode cX7_load 25 = .ok (.if_icmp .ge 57, 3) := by decide +kernel
theorem dX7_load_28 : decode cX7_load 28 = .ok (.iload_n 3, 1) := by decide +kernel
theorem dX7_load_29 : decode cX7_load 29 = .ok (.bipush 24, 2) := by decide +kernel
theorem dX7_load_31 : decode cX7_load 31 = .ok (.if_icmp .ge 51, 3) := by decide +kernel
theorem dX7_load_34 : decode cX7_load 34 = .ok (.aload_n 0, 1) := by decide +kernel
theorem dX7_load_35 : decode cX7_load 35 = .ok (.getfield 40, 3) := by decide +kernel
theorem dX7_load_38 : decode cX7_load 38 = .ok (.bipush 40, 2) := by decide +kernel
theorem dX7_load_40 : decode cX7_load 40 = .ok (.iload_n 1, 1) := by decide +kernel
theorem dX7_load_41 : decode cX7_load 41 = .ok (.imul, 1) := by decide +kernel
theorem dX7_load_42 : decode cX7_load 42 = .ok (.iload_n 3, 1) := by decide +kernel
theorem dX7_load_43 : decode cX7_load 43 = .ok (.iadd, 1) := by decide +kernel
theorem dX7_load_44 : decode cX7_load 44 = .ok (.iaload, 1) := by decide +kernel
theorem dX7_load_45 : decode cX7_load 45 = .ok (.i2l, 1) := by decide +kernel
theorem dX7_load_46 : decode cX7_load 46 = .ok (.lconst 0, 1) := by decide +kernel
theorem dX7_load_47 : decode cX7_load 47 = .ok (.ldc2_w 71, 3) := by decide +kernel
theorem dX7_load_50 : decode cX7_load 50 = .ok (.invokestatic 49, 3) := by decide +kernel
theorem dX7_load_53 : decode cX7_load 53 = .ok (.ifCond .eq 29, 3) := by decide +kernel
theorem dX7_load_56 : decode cX7_load 56 = .ok (.aload_n 0, 1) := by decide +kernel
theorem dX7_load_57 : decode cX7_load 57 = .ok (.getfield 7, 3) := by decide +kernel
theorem dX7_load_60 : decode cX7_load 60 = .ok (.bipush 39, 2) := by decide +kernel
theorem dX7_load_62 : decode cX7_load 62 = .ok (.iload_n 3, 1) := by decide +kernel
theorem dX7_load_63 : decode cX7_load 63 = .ok (.iadd, 1) := by decide +kernel
theorem dX7_load_64 : decode cX7_load 64 = .ok (.aload_n 0, 1) := by decide +kernel
theorem dX7_load_65 : decode cX7_load 65 = .ok (.getfield 40, 3) := by decide +kernel
theorem dX7_load_68 : decode cX7_load 68 = .ok (.bipush 40, 2) := by decide +kernel
theorem dX7_load_70 : decode cX7_load 70 = .ok (.iload_n 1, 1) := by decide +kernel
theorem dX7_load_71 : decode cX7_load 71 = .ok (.imul, 1) := by decide +kernel
theorem dX7_load_72 : decode cX7_load 72 = .ok (.iload_n 3, 1) := by decide +kernel
theorem dX7_load_73 : decode cX7_load 73 = .ok (.iadd, 1) := by decide +kernel
theorem dX7_load_74 : decode cX7_load 74 = .ok (.iaload, 1) := by decide +kernel
theorem dX7_load_75 : decode cX7_load 75 = .ok (.iastore, 1) := by decide +kernel
theorem dX7_load_76 : decode cX7_load 76 = .ok (.iinc 3 1, 3) := by decide +kernel
theorem dX7_load_79 : decode cX7_load 79 = .ok (.goto (-61), 3) := by decide +kernel
theorem dX7_load_82 : decode cX7_load 82 = .ok (.iload_n 3, 1) := by decide +kernel
theorem dX7_load_83 : decode cX7_load 83 = .ok (.ireturn, 1) := by decide +kernel
theorem dX7_judge_0 : decode cX7_judge 0 = .ok (.aload_n 0, 1) := by decide +kernel
theorem dX7_judge_1 : decode cX7_judge 1 = .ok (.iload_n 1, 1) := by decide +kernel
theorem dX7_judge_2 : decode cX7_judge 2 = .ok (.invokevirtual 297, 3) := by decide +kernel
theorem dX7_judge_5 : decode cX7_judge 5 = .ok (.istore_n 2, 1) := by decide +kernel
theorem dX7_judge_6 : decode cX7_judge 6 = .ok (.iload_n 2, 1) := by decide +kernel
theorem dX7_judge_7 : decode cX7_judge 7 = .ok (.ifCond .eq 9, 3) := by decide +kernel
theorem dX7_judge_10 : decode cX7_judge 10 = .ok (.aload_n 0, 1) := by decide +kernel
theorem dX7_judge_11 : decode cX7_judge 11 = .ok (.iload_n 2, 1) := by decide +kernel
theorem dX7_judge_12 : decode cX7_judge 12 = .ok (.invokevirtual 64, 3) := by decide +kernel
theorem dX7_judge_15 : decode cX7_judge 15 = .ok (.ireturn, 1) := by decide +kernel
theorem dX7_judge_16 : decode cX7_judge 16 = .ok (.aload_n 0, 1) := by decide +kernel
theorem dX7_judge_17 : decode cX7_judge 17 = .ok (.aload_n 0, 1) := by decide +kernel
theorem dX7_judge_18 : decode cX7_judge 18 = .ok (.getfield 37, 3) := by decide +kernel
theorem dX7_judge_21 : decode cX7_judge 21 = .ok (.iload_n 1, 1) := by decide +kernel
theorem dX7_judge_22 : decode cX7_judge 22 = .ok (.iaload, 1) := by decide +kernel
theorem dX7_judge_23 : decode cX7_judge 23 = .ok (.invokevirtual 146, 3) := by decide +kernel
theorem dX7_judge_26 : decode cX7_judge 26 = .ok (.ifCond .eq 10, 3) := by decide +kernel
theorem dX7_judge_29 : decode cX7_judge 29 = .ok (.aload_n 0, 1) := by decide +kernel
theorem dX7_judge_30 : decode cX7_judge 30 = .ok (.ldc 149, 2) := by decide +kernel
theorem dX7_judge_32 : decode cX7_judge 32 = .ok (.invokevirtual 64, 3) := by decide +kernel
theorem dX7_judge_35 : decode cX7_judge 35 = .ok (.ireturn, 1) := by decide +kernel
theorem dX7_judge_36 : decode cX7_judge 36 = .ok (.aload_n 0, 1) := by decide +kernel
theorem dX7_judge_37 : decode cX7_judge 37 = .ok (.invokevirtual 157, 3) := by decide +kernel
theorem dX7_judge_40 : decode cX7_judge 40 = .ok (.iconst 0, 1) := by decide +kernel
theorem dX7_judge_41 : decode cX7_judge 41 = .ok (.istore_n 3, 1) := by decide +kernel
theorem dX7_judge_42 : decode cX7_judge 42 = .ok (.iload_n 3, 1) := by decide +kernel
theorem dX7_judge_43 : decode cX7_judge 43 = .ok (.aload_n 0, 1) := by decide +kernel
theorem dX7_judge_44 : decode cX7_judge 44 = .ok (.getfield 37, 3) := by decide +kernel
theorem dX7_judge_47 : decode cX7_judge 47 = .ok (.iload_n 1, 1) := by decide +kernel
theorem dX7_judge_48 : decode cX7_judge 48 = .ok (.iaload, 1) := by decide +kernel
theorem dX7_judge_49 : decode cX7_judge 49 = .ok (.if_icmp .ge 27, 3) := by decide +kernel
theorem dX7_judge_52 : decode cX7_judge 52 = .ok (.aload_n 0, 1) := by decide +kernel
theorem dX7_judge_53 : decode cX7_judge 53 = .ok (.getfield 40, 3) := by decide +kernel
theorem dX7_judge_56 : decode cX7_judge 56 = .ok (.bipush 40, 2) := by decide +kernel
theorem dX7_judge_58 : decode cX7_judge 58 = .ok (.iload_n 1, 1) := by decide +kernel
theorem dX7_judge_59 : decode cX7_judge 59 = .ok (.imul, 1) := by decide +kernel
theorem dX7_judge_60 : decode cX7_judge 60 = .ok (.iload_n 3, 1) := by decide +kernel
theorem dX7_judge_61 : decode cX7_judge 61 = .ok (.iadd, 1) := by decide +kernel
theorem dX7_judge_62 : decode cX7_judge 62 = .ok (.iaload, 1) := by decide +kernel
theorem dX7_judge_63 : decode cX7_judge 63 = .ok (.aload_n 0, 1) := by decide +kernel
theorem dX7_judge_64 : decode cX7_judge 64 = .ok (.invokevirtual 140, 3) := by decide +kernel
theorem dX7_judge_67 : decode cX7_judge 67 = .ok (.if_icmp .ne 9, 3) := by decide +kernel
theorem dX7_judge_70 : decode cX7_judge 70 = .ok (.iinc 3 1, 3) := by decide +kernel
theorem dX7_judge_73 : decode cX7_judge 73 = .ok (.goto (-31), 3) := by decide +kernel
theorem dX7_judge_76 : decode cX7_judge 76 = .ok (.aload_n 0, 1) := by decide +kernel
theorem dX7_judge_77 : decode cX7_judge 77 = .ok (.invokevirtual 163, 3) := by decide +kernel
theorem dX7_judge_80 : decode cX7_judge 80 = .ok (.iload_n 3, 1) := by decide +kernel
theorem dX7_judge_81 : decode cX7_judge 81 = .ok (.aload_n 0, 1) := by decide +kernel
theorem dX7_judge_82 : decode cX7_judge 82 = .ok (.getfield 37, 3) := by decide +kernel
theorem dX7_judge_85 : decode cX7_judge 85 = .ok (.iload_n 1, 1) := by decide +kernel
theorem dX7_judge_86 : decode cX7_judge 86 = .ok (.iaload, 1) := by decide +kernel
theorem dX7_judge_87 : decode cX7_judge 87 = .ok (.if_icmp .ne 7, 3) := by decide +kernel
theorem dX7_judge_90 : decode cX7_judge 90 = .ok (.iconst 0, 1) := by decide +kernel
theorem dX7_judge_91 : decode cX7_judge 91 = .ok (.goto 6, 3) := by decide +kernel
theorem dX7_judge_94 : decode cX7_judge 94 = .ok (.iconst 1, 1) := by decide +kernel
theorem dX7_judge_95 : decode cX7_judge 95 = .ok (.iload_n 3, 1) := by decide +kernel
theorem dX7_judge_96 : decode cX7_judge 96 = .ok (.iadd, 1) := by decide +kernel
theorem dX7_judge_97 : decode cX7_judge 97 = .ok (.ireturn, 1) := by decide +kernel
theorem dX7_image_0 : decode cX7_image 0 = .ok (.iconst 0, 1) := by decide +kernel
theorem dX7_image_1 : decode cX7_image 1 = .ok (.istore_n 1, 1) := by decide +kernel
theorem dX7_image_2 : decode cX7_image 2 = .ok (.iload_n 1, 1) := by decide +kernel
theorem dX7_image_3 : decode cX7_image 3 = .ok (.sipush 735, 3) := by decide +kernel
theorem dX7_image_6 : decode cX7_image 6 = .ok (.if_icmp .ge 21, 3) := by decide +kernel
theorem dX7_image_9 : decode cX7_image 9 = .ok (.aload_n 0, 1) := by decide +kernel
theorem dX7_image_10 : decode cX7_image 10 = .ok (.getfield 13, 3) := by decide +kernel
theorem dX7_image_13 : decode cX7_image 13 = .ok (.iload_n 1, 1) := by decide +kernel
theorem dX7_image_14 : decode cX7_image 14 = .ok (.aload_n 0, 1) := by decide +kernel
theorem dX7_image_15 : decode cX7_image 15 = .ok (.getfield 7, 3) := by decide +kernel
theorem dX7_image_18 : decode cX7_image 18 = .ok (.iload_n 1, 1) := by decide +kernel
theorem dX7_image_19 : decode cX7_image 19 = .ok (.iaload, 1) := by decide +kernel
theorem dX7_image_20 : decode cX7_image 20 = .ok (.iastore, 1) := by decide +kernel
theorem dX7_image_21 : decode cX7_image 21 = .ok (.iinc 1 1, 3) := by decide +kernel
theorem dX7_image_24 : decode cX7_image 24 = .ok (.goto (-22), 3) := by decide +kernel
theorem dX7_image_27 : decode cX7_image 27 = .ok (.aload_n 0, 1) := by decide +kernel
theorem dX7_image_28 : decode cX7_image 28 = .ok (.iconst 1, 1) := by decide +kernel
theorem dX7_image_29 : decode cX7_image 29 = .ok (.putfield 303, 3) := by decide +kernel
theorem dX7_image_32 : decode cX7_image 32 = .ok (.iconst 1, 1) := by decide +kernel
theorem dX7_image_33 : decode cX7_image 33 = .ok (.ireturn, 1) := by decide +kernel
theorem dX7_undo_0 : decode cX7_undo 0 = .ok (.aload_n 0, 1) := by decide +kernel
theorem dX7_undo_1 : decode cX7_undo 1 = .ok (.getfield 303, 3) := by decide +kernel
theorem dX7_undo_4 : decode cX7_undo 4 = .ok (.ifCond .ne 10, 3) := by decide +kernel
theorem dX7_undo_7 : decode cX7_undo 7 = .ok (.aload_n 0, 1) := by decide +kernel
theorem dX7_undo_8 : decode cX7_undo 8 = .ok (.ldc 166, 2) := by decide +kernel
theorem dX7_undo_10 : decode cX7_undo 10 = .ok (.invokevirtual 64, 3) := by decide +kernel
theorem dX7_undo_13 : decode cX7_undo 13 = .ok (.ireturn, 1) := by decide +kernel
theorem dX7_undo_14 : decode cX7_undo 14 = .ok (.iconst 0, 1) := by decide +kernel
theorem dX7_undo_15 : decode cX7_undo 15 = .ok (.istore_n 1, 1) := by decide +kernel
theorem dX7_undo_16 : decode cX7_undo 16 = .ok (.iload_n 1, 1) := by decide +kernel
theorem dX7_undo_17 : decode cX7_undo 17 = .ok (.sipush 735, 3) := by decide +kernel
theorem dX7_undo_20 : decode cX7_undo 20 = .ok (.if_icmp .ge 21, 3) := by decide +kernel
theorem dX7_undo_23 : decode cX7_undo 23 = .ok (.aload_n 0, 1) := by decide +kernel
theorem dX7_undo_24 : decode cX7_undo 24 = .ok (.getfield 7, 3) := by decide +kernel
theorem dX7_undo_27 : decode cX7_undo 27 = .ok (.iload_n 1, 1) := by decide +kernel
theorem dX7_undo_28 : decode cX7_undo 28 = .ok (.aload_n 0, 1) := by decide +kernel
theorem dX7_undo_29 : decode cX7_undo 29 = .ok (.getfield 13, 3) := by decide +kernel
theorem dX7_undo_32 : decode cX7_undo 32 = .ok (.iload_n 1, 1) := by decide +kernel
theorem dX7_undo_33 : decode cX7_undo 33 = .ok (.iaload, 1) := by decide +kernel
theorem dX7_undo_34 : decode cX7_undo 34 = .ok (.iastore, 1) := by decide +kernel
theorem dX7_undo_35 : decode cX7_undo 35 = .ok (.iinc 1 1, 3) := by decide +kernel
theorem dX7_undo_38 : decode cX7_undo 38 = .ok (.goto (-22), 3) := by decide +kernel
theorem dX7_undo_41 : decode cX7_undo 41 = .ok (.aload_n 0, 1) := by decide +kernel
theorem dX7_undo_42 : decode cX7_undo 42 = .ok (.getfield 7, 3) := by decide +kernel
theorem dX7_undo_45 : decode cX7_undo 45 = .ok (.iconst 0, 1) := by decide +kernel
theorem dX7_undo_46 : decode cX7_undo 46 = .ok (.iaload, 1) := by decide +kernel
theorem dX7_undo_47 : decode cX7_undo 47 = .ok (.ireturn, 1) := by decide +kernel
theorem dX7_tear_0 : decode cX7_tear 0 = .ok (.aload_n 0, 1) := by decide +kernel
theorem dX7_tear_1 : decode cX7_tear 1 = .ok (.getfield 303, 3) := by decide +kernel
theorem dX7_tear_4 : decode cX7_tear 4 = .ok (.ifCond .eq 7, 3) := by decide +kernel
theorem dX7_tear_7 : decode cX7_tear 7 = .ok (.iconst 1, 1) := by decide +kernel
theorem dX7_tear_8 : decode cX7_tear 8 = .ok (.goto 4, 3) := by decide +kernel
theorem dX7_tear_11 : decode cX7_tear 11 = .ok (.iconst 0, 1) := by decide +kernel
theorem dX7_tear_12 : decode cX7_tear 12 = .ok (.istore_n 1, 1) := by decide +kernel
theorem dX7_tear_13 : decode cX7_tear 13 = .ok (.aload_n 0, 1) := by decide +kernel
theorem dX7_tear_14 : decode cX7_tear 14 = .ok (.iconst 0, 1) := by decide +kernel
theorem dX7_tear_15 : decode cX7_tear 15 = .ok (.putfield 303, 3) := by decide +kernel
theorem dX7_tear_18 : decode cX7_tear 18 = .ok (.iload_n 1, 1) := by decide +kernel
theorem dX7_tear_19 : decode cX7_tear 19 = .ok (.ireturn, 1) := by decide +kernel
theorem dX7_count_0 : decode cX7_count 0 = .ok (.iconst 0, 1) := by decide +kernel
theorem dX7_count_1 : decode cX7_count 1 = .ok (.istore_n 2, 1) := by decide +kernel
theorem dX7_count_2 : decode cX7_count 2 = .ok (.iload_n 1, 1) := by decide +kernel
theorem dX7_count_3 : decode cX7_count 3 = .ok (.tableswitch 162 0 7 #[45, 52, 59, 94, 103, 113, 118, 125], 45) := by decide +kernel
theorem dX7_count_48 : decode cX7_count 48 = .ok (.aload_n 0, 1) := by decide +kernel
theorem dX7_count_49 : decode cX7_count 49 = .ok (.getfield 7, 3) := by decide +kernel
theorem dX7_count_52 : decode cX7_count 52 = .ok (.iconst 0, 1) := by decide +kernel
theorem dX7_count_53 : decode cX7_count 53 = .ok (.iaload, 1) := by decide +kernel
theorem dX7_count_54 : decode cX7_count 54 = .ok (.ireturn, 1) := by decide +kernel
theorem dX7_count_55 : decode cX7_count 55 = .ok (.aload_n 0, 1) := by decide +kernel
theorem dX7_count_56 : decode cX7_count 56 = .ok (.getfield 7, 3) := by decide +kernel
theorem dX7_count_59 : decode cX7_count 59 = .ok (.iconst 1, 1) := by decide +kernel
theorem dX7_count_60 : decode cX7_count 60 = .ok (.iaload, 1) := by decide +kernel
theorem dX7_count_61 : decode cX7_count 61 = .ok (.ireturn, 1) := by decide +kernel
theorem dX7_count_62 : decode cX7_count 62 = .ok (.iconst 0, 1) := by decide +kernel
theorem dX7_count_63 : decode cX7_count 63 = .ok (.istore_n 3, 1) := by decide +kernel
theorem dX7_count_64 : decode cX7_count 64 = .ok (.iload_n 3, 1) := by decide +kernel
theorem dX7_count_65 : decode cX7_count 65 = .ok (.bipush 36, 2) := by decide +kernel
theorem dX7_count_67 : decode cX7_count 67 = .ok (.if_icmp .ge 28, 3) := by decide +kernel
theorem dX7_count_70 : decode cX7_count 70 = .ok (.iload_n 2, 1) := by decide +kernel
theorem dX7_count_71 : decode cX7_count 71 = .ok (.aload_n 0, 1) := by decide +kernel
theorem dX7_count_72 : decode cX7_count 72 = .ok (.getfield 7, 3) := by decide +kernel
theorem dX7_count_75 : decode cX7_count 75 = .ok (.iconst 3, 1) := by decide +kernel
theorem dX7_count_76 : decode cX7_count 76 = .ok (.iload_n 3, 1) := by decide +kernel
theorem dX7_count_77 : decode cX7_count 77 = .ok (.iadd, 1) := by decide +kernel
theorem dX7_count_78 : decode cX7_count 78 = .ok (.iaload, 1) := by decide +kernel
theorem dX7_count_79 : decode cX7_count 79 = .ok (.ifCond .ge 7, 3) := by decide +kernel
theorem dX7_count_82 : decode cX7_count 82 = .ok (.iconst 0, 1) := by decide +kernel
theorem dX7_count_83 : decode cX7_count 83 = .ok (.goto 4, 3) := by decide +kernel
theorem dX7_count_86 : decode cX7_count 86 = .ok (.iconst 1, 1) := by decide +kernel
theorem dX7_count_87 : decode cX7_count 87 = .ok (.iadd, 1) := by decide +kernel
theorem dX7_count_88 : decode cX7_count 88 = .ok (.istore_n 2, 1) := by decide +kernel
theorem dX7_count_89 : decode cX7_count 89 = .ok (.iinc 3 1, 3) := by decide +kernel
theorem dX7_count_92 : decode cX7_count 92 = .ok (.goto (-28), 3) := by decide +kernel
theorem dX7_count_95 : decode cX7_count 95 = .ok (.iload_n 2, 1) := by decide +kernel
theorem dX7_count_96 : decode cX7_count 96 = .ok (.ireturn, 1) := by decide +kernel
theorem dX7_count_97 : decode cX7_count 97 = .ok (.aload_n 0, 1) := by decide +kernel
theorem dX7_count_98 : decode cX7_count 98 = .ok (.bipush 125, 2) := by decide +kernel
theorem dX7_count_100 : decode cX7_count 100 = .ok (.iconst (-1), 1) := by decide +kernel
theorem dX7_count_101 : decode cX7_count 101 = .ok (.iconst (-1), 1) := by decide +kernel
theorem dX7_count_102 : decode cX7_count 102 = .ok (.invokevirtual 114, 3) := by decide +kernel
theorem dX7_count_105 : decode cX7_count 105 = .ok (.ireturn, 1) := by decide +kernel
theorem dX7_count_106 : decode cX7_count 106 = .ok (.aload_n 0, 1) := by decide +kernel
theorem dX7_count_107 : decode cX7_count 107 = .ok (.sipush 413, 3) := by decide +kernel
theorem dX7_count_110 : decode cX7_count 110 = .ok (.iconst (-1), 1) := by decide +kernel
theorem dX7_count_111 : decode cX7_count 111 = .ok (.iconst (-1), 1) := by decide +kernel
theorem dX7_count_112 : decode cX7_count 112 = .ok (.invokevirtual 114, 3) := by decide +kernel
theorem dX7_count_115 : decode cX7_count 115 = .ok (.ireturn, 1) := by decide +kernel
theorem dX7_count_116 : decode cX7_count 116 = .ok (.aload_n 0, 1) := by decide +kernel
theorem dX7_count_117 : decode cX7_count 117 = .ok (.getfield 192, 3) := by decide +kernel
theorem dX7_count_120 : decode cX7_count 120 = .ok (.ireturn, 1) := by decide +kernel
theorem dX7_count_121 : decode cX7_count 121 = .ok (.aload_n 0, 1) := by decide +kernel
theorem dX7_count_122 : decode cX7_count 122 = .ok (.getfield 7, 3) := by decide +kernel
theorem dX7_count_125 : decode cX7_count 125 = .ok (.iconst 2, 1) := by decide +kernel
theorem dX7_count_126 : decode cX7_count 126 = .ok (.iaload, 1) := by decide +kernel
theorem dX7_count_127 : decode cX7_count 127 = .ok (.ireturn, 1) := by decide +kernel
theorem dX7_count_128 : decode cX7_count 128 = .ok (.iconst 0, 1) := by decide +kernel
theorem dX7_count_129 : decode cX7_count 129 = .ok (.istore_n 3, 1) := by decide +kernel
theorem dX7_count_130 : decode cX7_count 130 = .ok (.iload_n 3, 1) := by decide +kernel
theorem dX7_count_131 : decode cX7_count 131 = .ok (.bipush 10, 2) := by decide +kernel
theorem dX7_count_133 : decode cX7_count 133 = .ok (.if_icmp .ge 30, 3) := by decide +kernel
theorem dX7_count_136 : decode cX7_count 136 = .ok (.iload_n 2, 1) := by decide +kernel
theorem dX7_count_137 : decode cX7_count 137 = .ok (.aload_n 0, 1) := by decide +kernel
theorem dX7_count_138 : decode cX7_count 138 = .ok (.getfield 7, 3) := by decide +kernel
theorem dX7_count_141 : decode cX7_count 141 = .ok (.sipush 725, 3) := by decide +kernel
theorem dX7_count_144 : decode cX7_count 144 = .ok (.iload_n 3, 1) := by decide +kernel
theorem dX7_count_145 : decode cX7_count 145 = .ok (.iadd, 1) := by decide +kernel
theorem dX7_count_146 : decode cX7_count 146 = .ok (.iaload, 1) := by decide +kernel
theorem dX7_count_147 : decode cX7_count 147 = .ok (.ifCond .ge 7, 3) := by decide +kernel
theorem dX7_count_150 : decode cX7_count 150 = .ok (.iconst 0, 1) := by decide +kernel
theorem dX7_count_151 : decode cX7_count 151 = .ok (.goto 4, 3) := by decide +kernel
theorem dX7_count_154 : decode cX7_count 154 = .ok (.iconst 1, 1) := by decide +kernel
theorem dX7_count_155 : decode cX7_count 155 = .ok (.iadd, 1) := by decide +kernel
theorem dX7_count_156 : decode cX7_count 156 = .ok (.istore_n 2, 1) := by decide +kernel
theorem dX7_count_157 : decode cX7_count 157 = .ok (.iinc 3 1, 3) := by decide +kernel
theorem dX7_count_160 : decode cX7_count 160 = .ok (.goto (-30), 3) := by decide +kernel
theorem dX7_count_163 : decode cX7_count 163 = .ok (.iload_n 2, 1) := by decide +kernel
theorem dX7_count_164 : decode cX7_count 164 = .ok (.ireturn, 1) := by decide +kernel
theorem dX7_count_165 : decode cX7_count 165 = .ok (.aload_n 0, 1) := by decide +kernel
theorem dX7_count_166 : decode cX7_count 166 = .ok (.ldc 46, 2) := by decide +kernel
theorem dX7_count_168 : decode cX7_count 168 = .ok (.invokevirtual 64, 3) := by decide +kernel
theorem dX7_count_171 : decode cX7_count 171 = .ok (.ireturn, 1) := by decide +kernel
theorem dX7_status_0 : decode cX7_status 0 = .ok (.iload_n 1, 1) := by decide +kernel
theorem dX7_status_1 : decode cX7_status 1 = .ok (.i2l, 1) := by decide +kernel
theorem dX7_status_2 : decode cX7_status 2 = .ok (.ldc2_w 62, 3) := by decide +kernel
theorem dX7_status_5 : decode cX7_status 5 = .ok (.ldc2_w 77, 3) := by decide +kernel
theorem dX7_status_8 : decode cX7_status 8 = .ok (.invokestatic 49, 3) := by decide +kernel
theorem dX7_status_11 : decode cX7_status 11 = .ok (.ifCond .ne 10, 3) := by decide +kernel
theorem dX7_status_14 : decode cX7_status 14 = .ok (.aload_n 0, 1) := by decide +kernel
theorem dX7_status_15 : decode cX7_status 15 = .ok (.ldc 46, 2) := by decide +kernel
theorem dX7_status_17 : decode cX7_status 17 = .ok (.invokevirtual 64, 3) := by decide +kernel
theorem dX7_status_20 : decode cX7_status 20 = .ok (.ireturn, 1) := by decide +kernel
theorem dX7_status_21 : decode cX7_status 21 = .ok (.iconst 0, 1) := by decide +kernel
theorem dX7_status_22 : decode cX7_status 22 = .ok (.istore_n 2, 1) := by decide +kernel
theorem dX7_status_23 : decode cX7_status 23 = .ok (.iconst 0, 1) := by decide +kernel
theorem dX7_status_24 : decode cX7_status 24 = .ok (.istore_n 3, 1) := by decide +kernel
theorem dX7_status_25 : decode cX7_status 25 = .ok (.iload_n 3, 1) := by decide +kernel
theorem dX7_status_26 : decode cX7_status 26 = .ok (.bipush 7, 2) := by decide +kernel
theorem dX7_status_28 : decode cX7_status 28 = .ok (.if_icmp .ge 31, 3) := by decide +kernel
theorem dX7_status_31 : decode cX7_status 31 = .ok (.iload_n 2, 1) := by decide +kernel
theorem dX7_status_32 : decode cX7_status 32 = .ok (.iload_n 1, 1) := by decide +kernel
theorem dX7_status_33 : decode cX7_status 33 = .ok (.ifCond .lt 8, 3) := by decide +kernel
theorem dX7_status_36 : decode cX7_status 36 = .ok (.iload_n 3, 1) := by decide +kernel
theorem dX7_status_37 : decode cX7_status 37 = .ok (.iload_n 1, 1) := by decide +kernel
theorem dX7_status_38 : decode cX7_status 38 = .ok (.if_icmp .ne 12, 3) := by decide +kernel
theorem dX7_status_41 : decode cX7_status 41 = .ok (.aload_n 0, 1) := by decide +kernel
theorem dX7_status_42 : decode cX7_status 42 = .ok (.getfield 19, 3) := by decide +kernel
theorem dX7_status_45 : decode cX7_status 45 = .ok (.iload_n 3, 1) := by decide +kernel
theorem dX7_status_46 : decode cX7_status 46 = .ok (.iaload, 1) := by decide +kernel
theorem dX7_status_47 : decode cX7_status 47 = .ok (.goto 4, 3) := by decide +kernel
theorem dX7_status_50 : decode cX7_status 50 = .ok (.iconst 0, 1) := by decide +kernel
theorem dX7_status_51 : decode cX7_status 51 = .ok (.iadd, 1) := by decide +kernel
theorem dX7_status_52 : decode cX7_status 52 = .ok (.istore_n 2, 1) := by decide +kernel
theorem dX7_status_53 : decode cX7_status 53 = .ok (.iinc 3 1, 3) := by decide +kernel
theorem dX7_status_56 : decode cX7_status 56 = .ok (.goto (-31), 3) := by decide +kernel
theorem dX7_status_59 : decode cX7_status 59 = .ok (.iload_n 2, 1) := by decide +kernel
theorem dX7_status_60 : decode cX7_status 60 = .ok (.ireturn, 1) := by decide +kernel
