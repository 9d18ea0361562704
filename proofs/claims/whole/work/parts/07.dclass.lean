theorem dX6_init_0 : decode cX6_init 0 = .ok (.aload_n 0, 1) := by decide +kernel
theorem dX6_init_1 : decode cX6_init 1 = .ok (.invokespecial 1, 3) := by decide +kernel
theorem dX6_init_4 : decode cX6_init 4 = .ok (.aload_n 0, 1) := by decide +kernel
theorem dX6_init_5 : decode cX6_init 5 = .ok (.new 7, 3) := by decide +kernel
theorem dX6_init_8 : decode cX6_init 8 = .ok (.dup, 1) := by decide +kernel
theorem dX6_init_9 : decode cX6_init 9 = .ok (.invokespecial 9, 3) := by decide +kernel
theorem dX6_init_12 : decode cX6_init 12 = .ok (.putfield 10, 3) := by decide +kernel
theorem dX6_init_15 : decode cX6_init 15 = .ok (.aload_n 0, 1) := by decide +kernel
theorem dX6_init_16 : decode cX6_init 16 = .ok (.new 7, 3) := by decide +kernel
theorem dX6_init_19 : decode cX6_init 19 = .ok (.dup, 1) := by decide +kernel
theorem dX6_init_20 : decode cX6_init 20 = .ok (.invokespecial 9, 3) := by decide +kernel
theorem dX6_init_23 : decode cX6_init 23 = .ok (.putfield 16, 3) := by decide +kernel
theorem dX6_init_26 : decode cX6_init 26 = .ok (.aload_n 0, 1) := by decide +kernel
theorem dX6_init_27 : decode cX6_init 27 = .ok (.iconst 0, 1) := by decide +kernel
theorem dX6_init_28 : decode cX6_init 28 = .ok (.putfield 19, 3) := by decide +kernel
theorem dX6_init_31 : decode cX6_init 31 = .ok (.aload_n 0, 1) := by decide +kernel
theorem dX6_init_32 : decode cX6_init 32 = .ok (.new 23, 3) := by decide +kernel
theorem dX6_init_35 : decode cX6_init 35 = .ok (.dup, 1) := by decide +kernel
theorem dX6_init_36 : decode cX6_init 36 = .ok (.invokespecial 25, 3) := by decide +kernel
theorem dX6_init_39 : decode cX6_init 39 = .ok (.putfield 26, 3) := by decide +kernel
theorem dX6_init_42 : decode cX6_init 42 = .ok (.aload_n 0, 1) := by decide +kernel
theorem dX6_init_43 : decode cX6_init 43 = .ok (.iconst 4, 1) := by decide +kernel
theorem dX6_init_44 : decode cX6_init 44 = .ok (.anewarray 30, 3) := by decide +kernel
theorem dX6_init_47 : decode cX6_init 47 = .ok (.putfield 32, 3) := by decide +kernel
theorem dX6_init_50 : decode cX6_init 50 = .ok (.aload_n 0, 1) := by decide +kernel
theorem dX6_init_51 : decode cX6_init 51 = .ok (.bipush 7, 2) := by decide +kernel
theorem dX6_init_53 : decode cX6_init 53 = .ok (.newarray .int, 2) := by decide +kernel
theorem dX6_init_55 : decode cX6_init 55 = .ok (.putfield 36, 3) := by decide +kernel
theorem dX6_init_58 : decode cX6_init 58 = .ok (.aload_n 0, 1) := by decide +kernel
theorem dX6_init_59 : decode cX6_init 59 = .ok (.new 40, 3) := by decide +kernel
theorem dX6_init_62 : decode cX6_init 62 = .ok (.dup, 1) := by decide +kernel
theorem dX6_init_63 : decode cX6_init 63 = .ok (.invokespecial 42, 3) := by decide +kernel
theorem dX6_init_66 : decode cX6_init 66 = .ok (.putfield 43, 3) := by decide +kernel
theorem dX6_init_69 : decode cX6_init 69 = .ok (.aload_n 0, 1) := by decide +kernel
theorem dX6_init_70 : decode cX6_init 70 = .ok (.new 47, 3) := by decide +kernel
theorem dX6_init_73 : decode cX6_init 73 = .ok (.dup, 1) := by decide +kernel
theorem dX6_init_74 : decode cX6_init 74 = .ok (.invokespecial 49, 3) := by decide +kernel
theorem dX6_init_77 : decode cX6_init 77 = .ok (.putfield 50, 3) := by decide +kernel
theorem dX6_init_80 : decode cX6_init 80 = .ok (.aload_n 0, 1) := by decide +kernel
theorem dX6_init_81 : decode cX6_init 81 = .ok (.bipush 6, 2) := by decide +kernel
theorem dX6_init_83 : decode cX6_init 83 = .ok (.newarray .int, 2) := by decide +kernel
theorem dX6_init_85 : decode cX6_init 85 = .ok (.putfield 54, 3) := by decide +kernel
theorem dX6_init_88 : decode cX6_init 88 = .ok (.aload_n 0, 1) := by decide +kernel
theorem dX6_init_89 : decode cX6_init 89 = .ok (.bipush 8, 2) := by decide +kernel
theorem dX6_init_91 : decode cX6_init 91 = .ok (.newarray .int, 2) := by decide +kernel
theorem dX6_init_93 : decode cX6_init 93 = .ok (.putfield 57, 3) := by decide +kernel
theorem dX6_init_96 : decode cX6_init 96 = .ok (.aload_n 0, 1) := by decide +kernel
theorem dX6_init_97 : decode cX6_init 97 = .ok (.bipush 8, 2) := by decide +kernel
theorem dX6_init_99 : decode cX6_init 99 = .ok (.newarray .int, 2) := by decide +kernel
theorem dX6_init_101 : decode cX6_init 101 = .ok (.putfield 60, 3) := by decide +kernel
theorem dX6_init_104 : decode cX6_init 104 = .ok (.aload_n 0, 1) := by decide +kernel
theorem dX6_init_105 : decode cX6_init 105 = .ok (.bipush 40, 2) := by decide +kernel
theorem dX6_init_107 : decode cX6_init 107 = .ok (.newarray .int, 2) := by decide +kernel
theorem dX6_init_109 : decode cX6_init 109 = .ok (.putfield 63, 3) := by decide +kernel
theorem dX6_init_112 : decode cX6_init 112 = .ok (.aload_n 0, 1) := by decide +kernel
theorem dX6_init_113 : decode cX6_init 113 = .ok (.bipush 36, 2) := by decide +kernel
theorem dX6_init_115 : decode cX6_init 115 = .ok (.newarray .int, 2) := by decide +kernel
theorem dX6_init_117 : decode cX6_init 117 = .ok (.putfield 66, 3) := by decide +kernel
theorem dX6_init_120 : decode cX6_init 120 = .ok (.iconst 0, 1) := by decide +kernel
theorem dX6_init_121 : decode cX6_init 121 = .ok (.istore_n 1, 1) := by decide +kernel
theorem dX6_init_122 : decode cX6_init 122 = .ok (.iload_n 1, 1) := by decide +kernel
theorem dX6_init_123 : decode cX6_init 123 = .ok (.iconst 4, 1) := by decide +kernel
theorem dX6_init_124 : decode cX6_init 124 = .ok (.if_icmp .ge 22, 3) := by decide +kernel
theorem dX6_init_127 : decode cX6_init 127 = .ok (.aload_n 0, 1) := by decide +kernel
theorem dX6_init_128 : decode cX6_init 128 = .ok (.getfield 32, 3) := by decide +kernel
theorem dX6_init_131 : decode cX6_init 131 = .ok (.iload_n 1, 1) := by decide +kernel
theorem dX6_init_132 : decode cX6_init 132 = .ok (.new 30, 3) := by decide +kernel
theorem dX6_init_135 : decode cX6_init 135 = .ok (.dup, 1) := by decide +kernel
theorem dX6_init_136 : decode cX6_init 136 = .ok (.invokespecial 69, 3) := by decide +kernel
theorem dX6_init_139 : decode cX6_init 139 = .ok (.aastore, 1) := by decide +kernel
theorem dX6_init_140 : decode cX6_init 140 = .ok (.iinc 1 1, 3) := by decide +kernel
theorem dX6_init_143 : decode cX6_init 143 = .ok (.goto (-21), 3) := by decide +kernel
theorem dX6_init_146 : decode cX6_init 146 = .ok (.return_, 1) := by decide +kernel
theorem dX6_finding_0 : decode cX6_finding 0 = .ok (.aload_n 0, 1) := by decide +kernel
theorem dX6_finding_1 : decode cX6_finding 1 = .ok (.getfield 36, 3) := by decide +kernel
theorem dX6_finding_4 : decode cX6_finding 4 = .ok (.iload_n 1, 1) := by decide +kernel
theorem dX6_finding_5 : decode cX6_finding 5 = .ok (.dup2, 1) := by decide +kernel
theorem dX6_finding_6 : decode cX6_finding 6 = .ok (.iaload, 1) := by decide +kernel
theorem dX6_finding_7 : decode cX6_finding 7 = .ok (.iconst 1, 1) := by decide +kernel
theorem dX6_finding_8 : decode cX6_finding 8 = .ok (.iadd, 1) := by decide +kernel
theorem dX6_finding_9 : decode cX6_finding 9 = .ok (.iastore, 1) := by decide +kernel
theorem dX6_finding_10 : decode cX6_finding 10 = .ok (.ldc_w 312, 3) := by decide +kernel
theorem dX6_finding_13 : decode cX6_finding 13 = .ok (.iload_n 1, 1) := by decide +kernel
theorem dX6_finding_14 : decode cX6_finding 14 = .ok (.isub, 1) := by decide +kernel
theorem dX6_finding_15 : decode cX6_finding 15 = .ok (.ireturn, 1) := by decide +kernel
theorem dX6_isIn_0 : decode cX6_isIn 0 = .ok (.iload_n 0, 1) := by decide +kernel
theorem dX6_isIn_1 : decode cX6_isIn 1 = .ok (.iload_n 1, 1) := by decide +kernel
theorem dX6_isIn_2 : decode cX6_isIn 2 = .ok (.if_icmp .lt 12, 3) := by decide +kernel
theorem dX6_isIn_5 : decode cX6_isIn 5 = .ok (.iload_n 0, 1) := by decide +kernel
theorem dX6_isIn_6 : decode cX6_isIn 6 = .ok (.iload_n 2, 1) := by decide +kernel
theorem dX6_isIn_7 : decode cX6_isIn 7 = .ok (.if_icmp .gt 7, 3) := by decide +kernel
theorem dX6_isIn_10 : decode cX6_isIn 10 = .ok (.iconst 1, 1) := by decide +kernel
theorem dX6_isIn_11 : decode cX6_isIn 11 = .ok (.goto 4, 3) := by decide +kernel
theorem dX6_isIn_14 : decode cX6_isIn 14 = .ok (.iconst 0, 1) := by decide +kernel
theorem dX6_isIn_15 : decode cX6_isIn 15 = .ok (.ireturn, 1) := by decide +kernel
theorem dX6_isCell_0 : decode cX6_isCell 0 = .ok (.iload_n 0, 1) := by decide +kernel
theorem dX6_isCell_1 : decode cX6_isCell 1 = .ok (.iconst 0, 1) := by decide +kernel
theorem dX6_isCell_2 : decode cX6_isCell 2 = .ok (.bipush 35, 2) := by decide +kernel
theorem dX6_isCell_4 : decode cX6_isCell 4 = .ok (.invokestatic 74, 3) := by decide +kernel
theorem dX6_isCell_7 : decode cX6_isCell 7 = .ok (.ireturn, 1) := by decide +kernel
theorem dX6_roof_0 : decode cX6_roof 0 = .ok (.iload_n 1, 1) := by decide +kernel
theorem dX6_roof_1 : decode cX6_roof 1 = .ok (.invokestatic 70, 3) := by decide +kernel
theorem dX6_roof_4 : decode cX6_roof 4 = .ok (.ifCond .eq 12, 3) := by decide +kernel
theorem dX6_roof_7 : decode cX6_roof 7 = .ok (.iload_n 2, 1) := by decide +kernel
theorem dX6_roof_8 : decode cX6_roof 8 = .ok (.iconst (-1), 1) := by decide +kernel
theorem dX6_roof_9 : decode cX6_roof 9 = .ok (.iconst 5, 1) := by decide +kernel
theorem dX6_roof_10 : decode cX6_roof 10 = .ok (.invokestatic 74, 3) := by decide +kernel
theorem dX6_roof_13 : decode cX6_roof 13 = .ok (.ifCond .ne 9, 3) := by decide +kernel
theorem dX6_roof_16 : decode cX6_roof 16 = .ok (.aload_n 0, 1) := by decide +kernel
theorem dX6_roof_17 : decode cX6_roof 17 = .ok (.iconst 0, 1) := by decide +kernel
theorem dX6_roof_18 : decode cX6_roof 18 = .ok (.invokevirtual 78, 3) := by decide +kernel
theorem dX6_roof_21 : decode cX6_roof 21 = .ok (.ireturn, 1) := by decide +kernel
theorem dX6_roof_22 : decode cX6_roof 22 = .ok (.aload_n 0, 1) := by decide +kernel
theorem dX6_roof_23 : decode cX6_roof 23 = .ok (.getfield 10, 3) := by decide +kernel
theorem dX6_roof_26 : decode cX6_roof 26 = .ok (.getfield 82, 3) := by decide +kernel
theorem dX6_roof_29 : decode cX6_roof 29 = .ok (.iload_n 1, 1) := by decide +kernel
theorem dX6_roof_30 : decode cX6_roof 30 = .ok (.iaload, 1) := by decide +kernel
theorem dX6_roof_31 : decode cX6_roof 31 = .ok (.istore_n 3, 1) := by decide +kernel
theorem dX6_roof_32 : decode cX6_roof 32 = .ok (.aload_n 0, 1) := by decide +kernel
theorem dX6_roof_33 : decode cX6_roof 33 = .ok (.getfield 10, 3) := by decide +kernel
theorem dX6_roof_36 : decode cX6_roof 36 = .ok (.getfield 82, 3) := by decide +kernel
theorem dX6_roof_39 : decode cX6_roof 39 = .ok (.iload_n 1, 1) := by decide +kernel
theorem dX6_roof_40 : decode cX6_roof 40 = .ok (.iload_n 2, 1) := by decide +kernel
theorem dX6_roof_41 : decode cX6_roof 41 = .ok (.iastore, 1) := by decide +kernel
theorem dX6_roof_42 : decode cX6_roof 42 = .ok (.iload_n 3, 1) := by decide +kernel
theorem dX6_roof_43 : decode cX6_roof 43 = .ok (.ireturn, 1) := by decide +kernel
theorem dX6_wind_0 : decode cX6_wind 0 = .ok (.iload_n 1, 1) := by decide +kernel
theorem dX6_wind_1 : decode cX6_wind 1 = .ok (.iconst 0, 1) := by decide +kernel
theorem dX6_wind_2 : decode cX6_wind 2 = .ok (.bipush 23, 2) := by decide +kernel
theorem dX6_wind_4 : decode cX6_wind 4 = .ok (.invokestatic 74, 3) := by decide +kernel
theorem dX6_wind_7 : decode cX6_wind 7 = .ok (.ifCond .eq 12, 3) := by decide +kernel
theorem dX6_wind_10 : decode cX6_wind 10 = .ok (.iload_n 2, 1) := by decide +kernel
theorem dX6_wind_11 : decode cX6_wind 11 = .ok (.iconst 0, 1) := by decide +kernel
theorem dX6_wind_12 : decode cX6_wind 12 = .ok (.iconst 4, 1) := by decide +kernel
theorem dX6_wind_13 : decode cX6_wind 13 = .ok (.invokestatic 74, 3) := by decide +kernel
theorem dX6_wind_16 : decode cX6_wind 16 = .ok (.ifCond .ne 9, 3) := by decide +kernel
theorem dX6_wind_19 : decode cX6_wind 19 = .ok (.aload_n 0, 1) := by decide +kernel
theorem dX6_wind_20 : decode cX6_wind 20 = .ok (.iconst 0, 1) := by decide +kernel
theorem dX6_wind_21 : decode cX6_wind 21 = .ok (.invokevirtual 78, 3) := by decide +kernel
theorem dX6_wind_24 : decode cX6_wind 24 = .ok (.ireturn, 1) := by decide +kernel
theorem dX6_wind_25 : decode cX6_wind 25 = .ok (.aload_n 0, 1) := by decide +kernel
theorem dX6_wind_26 : decode cX6_wind 26 = .ok (.getfield 10, 3) := by decide +kernel
theorem dX6_wind_29 : decode cX6_wind 29 = .ok (.getfield 85, 3) := by decide +kernel
theorem dX6_wind_32 : decode cX6_wind 32 = .ok (.iload_n 1, 1) := by decide +kernel
theorem dX6_wind_33 : decode cX6_wind 33 = .ok (.iaload, 1) := by decide +kernel
theorem dX6_wind_34 : decode cX6_wind 34 = .ok (.istore_n 3, 1) := by decide +kernel
theorem dX6_wind_35 : decode cX6_wind 35 = .ok (.aload_n 0, 1) := by decide +kernel
theorem dX6_wind_36 : decode cX6_wind 36 = .ok (.getfield 10, 3) := by decide +kernel
theorem dX6_wind_39 : decode cX6_wind 39 = .ok (.getfield 85, 3) := by decide +kernel
theorem dX6_wind_42 : decode cX6_wind 42 = .ok (.iload_n 1, 1) := by decide +kernel
theorem dX6_wind_43 : decode cX6_wind 43 = .ok (.iload_n 2, 1) := by decide +kernel
theorem dX6_wind_44 : decode cX6_wind 44 = .ok (.iastore, 1) := by decide +kernel
theorem dX6_wind_45 : decode cX6_wind 45 = .ok (.iload_n 3, 1) := by decide +kernel
theorem dX6_wind_46 : decode cX6_wind 46 = .ok (.ireturn, 1) := by decide +kernel
theorem dX6_isKind_0 : decode cX6_isKind 0 = .ok (.iload_n 0, 1) := by decide +kernel
theorem dX6_isKind_1 : decode cX6_isKind 1 = .ok (.iconst 0, 1) := by decide +kernel
theorem dX6_isKind_2 : decode cX6_isKind 2 = .ok (.bipush 6, 2) := by decide +kernel
theorem dX6_isKind_4 : decode cX6_isKind 4 = .ok (.invokestatic 74, 3) := by decide +kernel
theorem dX6_isKind_7 : decode cX6_isKind 7 = .ok (.ireturn, 1) := by decide +kernel
theorem dX6_isOwner_0 : decode cX6_isOwner 0 = .ok (.iload_n 0, 1) := by decide +kernel
theorem dX6_isOwner_1 : decode cX6_isOwner 1 = .ok (.iconst 0, 1) := by decide +kernel
theorem dX6_isOwner_2 : decode cX6_isOwner 2 = .ok (.iconst 5, 1) := by decide +kernel
theorem dX6_isOwner_3 : decode cX6_isOwner 3 = .ok (.invokestatic 74, 3) := by decide +kernel
theorem dX6_isOwner_6 : decode cX6_isOwner 6 = .ok (.ireturn, 1) := by decide +kernel
theorem dX6_chimney_0 : decode cX6_chimney 0 = .ok (.iload_n 1, 1) := by decide +kernel
theorem dX6_chimney_1 : decode cX6_chimney 1 = .ok (.invokestatic 88, 3) := by decide +kernel
theorem dX6_chimney_4 : decode cX6_chimney 4 = .ok (.ifCond .eq 17, 3) := by decide +kernel
theorem dX6_chimney_7 : decode cX6_chimney 7 = .ok (.iload_n 2, 1) := by decide +kernel
theorem dX6_chimney_8 : decode cX6_chimney 8 = .ok (.invokestatic 91, 3) := by decide +kernel
theorem dX6_chimney_11 : decode cX6_chimney 11 = .ok (.ifCond .eq 10, 3) := by decide +kernel
theorem dX6_chimney_14 : decode cX6_chimney 14 = .ok (.iload_n 3, 1) := by decide +kernel
theorem dX6_chimney_15 : decode cX6_chimney 15 = .ok (.invokestatic 70, 3) := by decide +kernel
theorem dX6_chimney_18 : decode cX6_chimney 18 = .ok (.ifCond .ne 9, 3) := by decide +kernel
theorem dX6_chimney_21 : decode cX6_chimney 21 = .ok (.aload_n 0, 1) := by decide +kernel
theorem dX6_chimney_22 : decode cX6_chimney 22 = .ok (.iconst 0, 1) := by decide +kernel
theorem dX6_chimney_23 : decode cX6_chimney 23 = .ok (.invokevirtual 78, 3) := by decide +kernel
theorem dX6_chimney_26 : decode cX6_chimney 26 = .ok (.ireturn, 1) := by decide +kernel
theorem dX6_chimney_27 : decode cX6_chimney 27 = .ok (.aload_n 0, 1) := by decide +kernel
theorem dX6_chimney_28 : decode cX6_chimney 28 = .ok (.getfield 10, 3) := by decide +kernel
theorem dX6_chimney_31 : decode cX6_chimney 31 = .ok (.invokevirtual 94, 3) := by decide +kernel
theorem dX6_chimney_34 : decode cX6_chimney 34 = .ok (.ifCond .eq 9, 3) := by decide +kernel
theorem dX6_chimney_37 : decode cX6_chimney 37 = .ok (.aload_n 0, 1) := by decide +kernel
theorem dX6_chimney_38 : decode cX6_chimney 38 = .ok (.iconst 1, 1) := by decide +kernel
theorem dX6_chimney_39 : decode cX6_chimney 39 = .ok (.invokevirtual 78, 3) := by decide +kernel
theorem dX6_chimney_42 : decode cX6_chimney 42 = .ok (.ireturn, 1) := by decide +kernel
theorem dX6_chimney_43 : decode cX6_chimney 43 = .ok (.aload_n 0, 1) := by decide +kernel
theorem dX6_chimney_44 : decode cX6_chimney 44 = .ok (.getfield 10, 3) := by decide +kernel
theorem dX6_chimney_47 : decode cX6_chimney 47 = .ok (.iload_n 1, 1) := by decide +kernel
theorem dX6_chimney_48 : decode cX6_chimney 48 = .ok (.iload_n 2, 1) := by decide +kernel
theorem dX6_chimney_49 : decode cX6_chimney 49 = .ok (.iload_n 3, 1) := by decide +kernel
theorem dX6_chimney_50 : decode cX6_chimney 50 = .ok (.invokevirtual 98, 3) := by decide +kernel
theorem dX6_chimney_53 : decode cX6_chimney 53 = .ok (.ireturn, 1) := by decide +kernel
theorem dX6_isChimney_0 : decode cX6_isChimney 0 = .ok (.iload_n 1, 1) := by decide +kernel
theorem dX6_isChimney_1 : decode cX6_isChimney 1 = .ok (.iconst 0, 1) := by decide +kernel
theorem dX6_isChimney_2 : decode cX6_isChimney 2 = .ok (.aload_n 0, 1) := by decide +kernel
theorem dX6_isChimney_3 : decode cX6_isChimney 3 = .ok (.getfield 10, 3) := by decide +kernel
theorem dX6_isChimney_6 : decode cX6_isChimney 6 = .ok (.getfield 178, 3) := by decide +kernel
theorem dX6_isChimney_9 : decode cX6_isChimney 9 = .ok (.iconst 1, 1) := by decide +kernel
theorem dX6_isChimney_10 : decode cX6_isChimney 10 = .ok (.isub, 1) := by decide +kernel
theorem dX6_isChimney_11 : decode cX6_isChimney 11 = .ok (.invokestatic 74, 3) := by decide +kernel
theorem dX6_isChimney_14 : decode cX6_isChimney 14 = .ok (.ireturn, 1) := by decide +kernel
theorem dX6_of_0 : decode cX6_of 0 = .ok (.aload_n 0, 1) := by decide +kernel
theorem dX6_of_1 : decode cX6_of 1 = .ok (.iload_n 1, 1) := by decide +kernel
theorem dX6_of_2 : decode cX6_of 2 = .ok (.invokevirtual 102, 3) := by decide +kernel
theorem dX6_of_5 : decode cX6_of 5 = .ok (.ifCond .eq 13, 3) := by decide +kernel
theorem dX6_of_8 : decode cX6_of 8 = .ok (.iload_n 2, 1) := by decide +kernel
theorem dX6_of_9 : decode cX6_of 9 = .ok (.iconst 0, 1) := by decide +kernel
theorem dX6_of_10 : decode cX6_of 10 = .ok (.bipush 9, 2) := by decide +kernel
theorem dX6_of_12 : decode cX6_of 12 = .ok (.invokestatic 74, 3) := by decide +kernel
theorem dX6_of_15 : decode cX6_of 15 = .ok (.ifCond .ne 9, 3) := by decide +kernel
theorem dX6_of_18 : decode cX6_of 18 = .ok (.aload_n 0, 1) := by decide +kernel
theorem dX6_of_19 : decode cX6_of 19 = .ok (.iconst 0, 1) := by decide +kernel
theorem dX6_of_20 : decode cX6_of 20 = .ok (.invokevirtual 78, 3) := by decide +kernel
theorem dX6_of_23 : decode cX6_of 23 = .ok (.ireturn, 1) := by decide +kernel
theorem dX6_of_24 : decode cX6_of 24 = .ok (.aload_n 0, 1) := by decide +kernel
theorem dX6_of_25 : decode cX6_of 25 = .ok (.getfield 10, 3) := by decide +kernel
theorem dX6_of_28 : decode cX6_of 28 = .ok (.getfield 105, 3) := by decide +kernel
theorem dX6_of_31 : decode cX6_of 31 = .ok (.iload_n 1, 1) := by decide +kernel
theorem dX6_of_32 : decode cX6_of 32 = .ok (.aaload, 1) := by decide +kernel
theorem dX6_of_33 : decode cX6_of 33 = .ok (.astore_n 3, 1) := by decide +kernel
theorem dX6_of_34 : decode cX6_of 34 = .ok (.iload_n 2, 1) := by decide +kernel
theorem dX6_of_35 : decode cX6_of 35 = .ok (.bipush 7, 2) := by decide +kernel
theorem dX6_of_37 : decode cX6_of 37 = .ok (.if_icmp .ge 10, 3) := by decide +kernel
theorem dX6_of_40 : decode cX6_of 40 = .ok (.aload_n 3, 1) := by decide +kernel
theorem dX6_of_41 : decode cX6_of 41 = .ok (.getfield 109, 3) := by decide +kernel
theorem dX6_of_44 : decode cX6_of 44 = .ok (.iload_n 2, 1) := by decide +kernel
theorem dX6_of_45 : decode cX6_of 45 = .ok (.iaload, 1) := by decide +kernel
theorem dX6_of_46 : decode cX6_of 46 = .ok (.ireturn, 1) := by decide +kernel
theorem dX6_of_47 : decode cX6_of 47 = .ok (.iload_n 2, 1) := by decide +kernel
theorem dX6_of_48 : decode cX6_of 48 = .ok (.bipush 7, 2) := by decide +kernel
theorem dX6_of_50 : decode cX6_of 50 = .ok (.if_icmp .ne 8, 3) := by decide +kernel
theorem dX6_of_53 : decode cX6_of 53 = .ok (.aload_n 3, 1) := by decide +kernel
theorem dX6_of_54 : decode cX6_of 54 = .ok (.invokevirtual 112, 3) := by decide +kernel
theorem dX6_of_57 : decode cX6_of 57 = .ok (.ireturn, 1) := by decide +kernel
theorem dX6_of_58 : decode cX6_of 58 = .ok (.iload_n 2, 1) := by decide +kernel
theorem dX6_of_59 : decode cX6_of 59 = .ok (.bipush 8, 2) := by decide +kernel
theorem dX6_of_61 : decode cX6_of 61 = .ok (.if_icmp .ne 8, 3) := by decide +kernel
theorem dX6_of_64 : decode cX6_of 64 = .ok (.aload_n 3, 1) := by decide +kernel
theorem dX6_of_65 : decode cX6_of 65 = .ok (.invokevirtual 116, 3) := by decide +kernel
theorem dX6_of_68 : decode cX6_of 68 = .ok (.ireturn, 1) := by decide +kernel
theorem dX6_of_69 : decode cX6_of 69 = .ok (.aload_n 0, 1) := by decide +kernel
theorem dX6_of_70 : decode cX6_of 70 = .ok (.getfield 10, 3) := by decide +kernel
theorem dX6_of_73 : decode cX6_of 73 = .ok (.getfield 119, 3) := by decide +kernel
theorem dX6_of_76 : decode cX6_of 76 = .ok (.bipush 24, 2) := by decide +kernel
theorem dX6_of_78 : decode cX6_of 78 = .ok (.irem, 1) := by decide +kernel
theorem dX6_of_79 : decode cX6_of 79 = .ok (.istore 4, 2) := by decide +kernel
theorem dX6_of_81 : decode cX6_of 81 = .ok (.aload_n 3, 1) := by decide +kernel
theorem dX6_of_82 : decode cX6_of 82 = .ok (.iload 4, 2) := by decide +kernel
theorem dX6_of_84 : decode cX6_of 84 = .ok (.invokevirtual 123, 3) := by decide +kernel
theorem dX6_of_87 : decode cX6_of 87 = .ok (.ifCond .eq 12, 3) := by decide +kernel
theorem dX6_of_90 : decode cX6_of 90 = .ok (.aload_n 3, 1) := by decide +kernel
theorem dX6_of_91 : decode cX6_of 91 = .ok (.iload 4, 2) := by decide +kernel
theorem dX6_of_93 : decode cX6_of 93 = .ok (.invokevirtual 126, 3) := by decide +kernel
theorem dX6_of_96 : decode cX6_of 96 = .ok (.goto 4, 3) := by decide +kernel
theorem dX6_of_99 : decode cX6_of 99 = .ok (.iconst 0, 1) := by decide +kernel
theorem dX6_of_100 : decode cX6_of 100 = .ok (.ireturn, 1) := by decide +kernel
theorem dX6_change_0 : decode cX6_change 0 = .ok (.aload_n 0, 1) := by decide +kernel
theorem dX6_change_1 : decode cX6_change 1 = .ok (.iload_n 1, 1) := by decide +kernel
theorem dX6_change_2 : decode cX6_change 2 = .ok (.invokevirtual 102, 3) := by decide +kernel
theorem dX6_change_5 : decode cX6_change 5 = .ok (.ifCond .eq 26, 3) := by decide +kernel
theorem dX6_change_8 : decode cX6_change 8 = .ok (.iload_n 2, 1) := by decide +kernel
theorem dX6_change_9 : decode cX6_change 9 = .ok (.iconst 0, 1) := by decide +kernel
theorem dX6_change_10 : decode cX6_change 10 = .ok (.bipush 6, 2) := by decide +kernel
theorem dX6_change_12 : decode cX6_change 12 = .ok (.invokestatic 74, 3) := by decide +kernel
theorem dX6_change_15 : decode cX6_change 15 = .ok (.ifCond .eq 16, 3) := by decide +kernel
theorem dX6_change_18 : decode cX6_change 18 = .ok (.iload_n 3, 1) := by decide +kernel
theorem dX6_change_19 : decode cX6_change 19 = .ok (.iconst 0, 1) := by decide +kernel
theorem dX6_change_20 : decode cX6_change 20 = .ok (.getstatic 129, 3) := by decide +kernel
theorem dX6_change_23 : decode cX6_change 23 = .ok (.iload_n 2, 1) := by decide +kernel
theorem dX6_change_24 : decode cX6_change 24 = .ok (.iaload, 1) := by decide +kernel
theorem dX6_change_25 : decode cX6_change 25 = .ok (.invokestatic 74, 3) := by decide +kernel
theorem dX6_change_28 : decode cX6_change 28 = .ok (.ifCond .ne 9, 3) := by decide +kernel
theorem dX6_change_31 : decode cX6_change 31 = .ok (.aload_n 0, 1) := by decide +kernel
theorem dX6_change_32 : decode cX6_change 32 = .ok (.iconst 0, 1) := by decide +kernel
theorem dX6_change_33 : decode cX6_change 33 = .ok (.invokevirtual 78, 3) := by decide +kernel
theorem dX6_change_36 : decode cX6_change 36 = .ok (.ireturn, 1) := by decide +kernel
theorem dX6_change_37 : decode cX6_change 37 = .ok (.aload_n 0, 1) := by decide +kernel
theorem dX6_change_38 : decode cX6_change 38 = .ok (.getfield 10, 3) := by decide +kernel
theorem dX6_change_41 : decode cX6_change 41 = .ok (.getfield 105, 3) := by decide +kernel
theorem dX6_change_44 : decode cX6_change 44 = .ok (.iload_n 1, 1) := by decide +kernel
theorem dX6_change_45 : decode cX6_change 45 = .ok (.aaload, 1) := by decide +kernel
theorem dX6_change_46 : decode cX6_change 46 = .ok (.getfield 109, 3) := by decide +kernel
theorem dX6_change_49 : decode cX6_change 49 = .ok (.astore 4, 2) := by decide +kernel
theorem dX6_change_51 : decode cX6_change 51 = .ok (.aload 4, 2) := by decide +kernel
theorem dX6_change_53 : decode cX6_change 53 = .ok (.iload_n 2, 1) := by decide +kernel
theorem dX6_change_54 : decode cX6_change 54 = .ok (.iaload, 1) := by decide +kernel
theorem dX6_change_55 : decode cX6_change 55 = .ok (.istore 5, 2) := by decide +kernel
theorem dX6_change_57 : decode cX6_change 57 = .ok (.aload 4, 2) := by decide +kernel
theorem dX6_change_59 : decode cX6_change 59 = .ok (.iload_n 2, 1) := by decide +kernel
theorem dX6_change_60 : decode cX6_change 60 = .ok (.iload_n 3, 1) := by decide +kernel
theorem dX6_change_61 : decode cX6_change 61 = .ok (.iastore, 1) := by decide +kernel
theorem dX6_change_62 : decode cX6_change 62 = .ok (.iload 5, 2) := by decide +kernel
theorem dX6_change_64 : decode cX6_change 64 = .ok (.ireturn, 1) := by decide +kernel
theorem dX6_book_0 : decode cX6_book 0 = .ok (.iload_n 1, 1) := by decide +kernel
theorem dX6_book_1 : decode cX6_book 1 = .ok (.invokestatic 91, 3) := by decide +kernel
theorem dX6_book_4 : decode cX6_book 4 = .ok (.ifCond .ne 9, 3) := by decide +kernel
theorem dX6_book_7 : decode cX6_book 7 = .ok (.aload_n 0, 1) := by decide +kernel
theorem dX6_book_8 : decode cX6_book 8 = .ok (.iconst 0, 1) := by decide +kernel
theorem dX6_book_9 : decode cX6_book 9 = .ok (.invokevirtual 78, 3) := by decide +kernel
theorem dX6_book_12 : decode cX6_book 12 = .ok (.ireturn, 1) := by decide +kernel
theorem dX6_book_13 : decode cX6_book 13 = .ok (.aload_n 0, 1) := by decide +kernel
theorem dX6_book_14 : decode cX6_book 14 = .ok (.getfield 10, 3) := by decide +kernel
theorem dX6_book_17 : decode cX6_book 17 = .ok (.getfield 132, 3) := by decide +kernel
theorem dX6_book_20 : decode cX6_book 20 = .ok (.iload_n 1, 1) := by decide +kernel
theorem dX6_book_21 : decode cX6_book 21 = .ok (.iaload, 1) := by decide +kernel
theorem dX6_book_22 : decode cX6_book 22 = .ok (.ireturn, 1) := by decide +kernel
theorem dX6_strike_0 : decode cX6_strike 0 = .ok (.iconst 0, 1) := by decide +kernel
theorem dX6_strike_1 : decode cX6_strike 1 = .ok (.istore_n 1, 1) := by decide +kernel
theorem dX6_strike_2 : decode cX6_strike 2 = .ok (.iconst 0, 1) := by decide +kernel
theorem dX6_strike_3 : decode cX6_strike 3 = .ok (.istore_n 2, 1) := by decide +kernel
theorem dX6_strike_4 : decode cX6_strike 4 = .ok (.iload_n 2, 1) := by decide +kernel
theorem dX6_strike_5 : decode cX6_strike 5 = .ok (.bipush 6, 2) := by decide +kernel
theorem dX6_strike_7 : decode cX6_strike 7 = .ok (.if_icmp .ge 35, 3) := by decide +kernel
theorem dX6_strike_10 : decode cX6_strike 10 = .ok (.iload_n 1, 1) := by decide +kernel
theorem dX6_strike_11 : decode cX6_strike 11 = .ok (.aload_n 0, 1) := by decide +kernel
theorem dX6_strike_12 : decode cX6_strike 12 = .ok (.getfield 10, 3) := by decide +kernel
theorem dX6_strike_15 : decode cX6_strike 15 = .ok (.getfield 132, 3) := by decide +kernel
theorem dX6_strike_18 : decode cX6_strike 18 = .ok (.iload_n 2, 1) := by decide +kernel
theorem dX6_strike_19 : decode cX6_strike 19 = .ok (.iaload, 1) := by decide +kernel
theorem dX6_strike_20 : decode cX6_strike 20 = .ok (.iconst 0, 1) := by decide +kernel
theorem dX6_strike_21 : decode cX6_strike 21 = .ok (.invokestatic 135, 3) := by decide +kernel
theorem dX6_strike_24 : decode cX6_strike 24 = .ok (.iadd, 1) := by decide +kernel
theorem dX6_strike_25 : decode cX6_strike 25 = .ok (.istore_n 1, 1) := by decide +kernel
theorem dX6_strike_26 : decode cX6_strike 26 = .ok (.aload_n 0, 1) := by decide +kernel
theorem dX6_strike_27 : decode cX6_strike 27 = .ok (.getfield 10, 3) := by decide +kernel
theorem dX6_strike_30 : decode cX6_strike 30 = .ok (.getfield 132, 3) := by decide +kernel
theorem dX6_strike_33 : decode cX6_strike 33 = .ok (.iload_n 2, 1) := by decide +kernel
theorem dX6_strike_34 : decode cX6_strike 34 = .ok (.iconst 0, 1) := by decide +kernel
theorem dX6_strike_35 : decode cX6_strike 35 = .ok (.iastore, 1) := by decide +kernel
theorem dX6_strike_36 : decode cX6_strike 36 = .ok (.iinc 2 1, 3) := by decide +kernel
theorem dX6_strike_39 : decode cX6_strike 39 = .ok (.goto (-35), 3) := by decide +kernel
theorem dX6_strike_42 : decode cX6_strike 42 = .ok (.iload_n 1, 1) := by decide +kernel
theorem dX6_strike_43 : decode cX6_strike 43 = .ok (.ireturn, 1) := by decide +kernel
theorem dX6_isCellOrAll_0 : decode cX6_isCellOrAll 0 = .ok (.iload_n 0, 1) := by decide +kernel
theorem dX6_isCellOrAll_1 : decode cX6_isCellOrAll 1 = .ok (.iconst (-1), 1) := by decide +kernel
theorem dX6_isCellOrAll_2 : decode cX6_isCellOrAll 2 = .ok (.bipush 35, 2) := by decide +kernel
theorem dX6_isCellOrAll_4 : decode cX6_isCellOrAll 4 = .ok (.invokestatic 74, 3) := by decide +kernel
theorem dX6_isCellOrAll_7 : decode cX6_isCellOrAll 7 = .ok (.ireturn, 1) := by decide +kernel
theorem dX6_isChimneyOrAll_0 : decode cX6_isChimneyOrAll 0 = .ok (.iload_n 1, 1) := by decide +kernel
theorem dX6_isChimneyOrAll_1 : decode cX6_isChimneyOrAll 1 = .ok (.iconst (-1), 1) := by decide +kernel
theorem dX6_isChimneyOrAll_2 : decode cX6_isChimneyOrAll 2 = .ok (.aload_n 0, 1) := by decide +kernel
theorem dX6_isChimneyOrAll_3 : decode cX6_isChimneyOrAll 3 = .ok (.getfield 10, 3) := by decide +kernel
theorem dX6_isChimneyOrAll_6 : decode cX6_isChimneyOrAll 6 = .ok (.getfield 178, 3) := by decide +kernel
theorem dX6_isChimneyOrAll_9 : decode cX6_isChimneyOrAll 9 = .ok (.iconst 1, 1) := by decide +kernel
theorem dX6_isChimneyOrAll_10 : decode cX6_isChimneyOrAll 10 = .ok (.isub, 1) := by decide +kernel
theorem dX6_isChimneyOrAll_11 : decode cX6_isChimneyOrAll 11 = .ok (.invokestatic 74, 3) := by decide +kernel
theorem dX6_isChimneyOrAll_14 : decode cX6_isChimneyOrAll 14 = .ok (.ireturn, 1) := by decide +kernel
theorem dX6_lastOf_0 : decode cX6_lastOf 0 = .ok (.iload_n 1, 1) := by decide +kernel
theorem dX6_lastOf_1 : decode cX6_lastOf 1 = .ok (.ifCond .ge 15, 3) := by decide +kernel
theorem dX6_lastOf_4 : decode cX6_lastOf 4 = .ok (.aload_n 0, 1) := by decide +kernel
theorem dX6_lastOf_5 : decode cX6_lastOf 5 = .ok (.getfield 10, 3) := by decide +kernel
theorem dX6_lastOf_8 : decode cX6_lastOf 8 = .ok (.getfield 178, 3) := by decide +kernel
theorem dX6_lastOf_11 : decode cX6_lastOf 11 = .ok (.iconst 1, 1) := by decide +kernel
theorem dX6_lastOf_12 : decode cX6_lastOf 12 = .ok (.isub, 1) := by decide +kernel
theorem dX6_lastOf_13 : decode cX6_lastOf 13 = .ok (.goto 4, 3) := by decide +kernel
theorem dX6_lastOf_16 : decode cX6_lastOf 16 = .ok (.iload_n 1, 1) := by decide +kernel
theorem dX6_lastOf_17 : decode cX6_lastOf 17 = .ok (.ireturn, 1) := by decide +kernel
theorem dX6_partsOver_0 : decode cX6_partsOver 0 = .ok (.iload_n 1, 1) := by decide +kernel
theorem dX6_partsOver_1 : decode cX6_partsOver 1 = .ok (.ifCond .lt 7, 3) := by decide +kernel
theorem dX6_partsOver_4 : decode cX6_partsOver 4 = .ok (.aload_n 0, 1) := by decide +kernel
theorem dX6_partsOver_5 : decode cX6_partsOver 5 = .ok (.iload_n 1, 1) := by decide +kernel
theorem dX6_partsOver_6 : decode cX6_partsOver 6 = .ok (.iaload, 1) := by decide +kernel
theorem dX6_partsOver_7 : decode cX6_partsOver 7 = .ok (.ireturn, 1) := by decide +kernel
theorem dX6_partsOver_8 : decode cX6_partsOver 8 = .ok (.iconst 0, 1) := by decide +kernel
theorem dX6_partsOver_9 : decode cX6_partsOver 9 = .ok (.istore_n 2, 1) := by decide +kernel
theorem dX6_partsOver_10 : decode cX6_partsOver 10 = .ok (.iconst 0, 1) := by decide +kernel
theorem dX6_partsOver_11 : decode cX6_partsOver 11 = .ok (.istore_n 3, 1) := by decide +kernel
theorem dX6_partsOver_12 : decode cX6_partsOver 12 = .ok (.iload_n 3, 1) := by decide +kernel
theorem dX6_partsOver_13 : decode cX6_partsOver 13 = .ok (.bipush 36, 2) := by decide +kernel
theorem dX6_partsOver_15 : decode cX6_partsOver 15 = .ok (.if_icmp .ge 15, 3) := by decide +kernel
theorem dX6_partsOver_18 : decode cX6_partsOver 18 = .ok (.iload_n 2, 1) := by decide +kernel
theorem dX6_partsOver_19 : decode cX6_partsOver 19 = .ok (.aload_n 0, 1) := by decide +kernel
theorem dX6_partsOver_20 : decode cX6_partsOver 20 = .ok (.iload_n 3, 1) := by decide +kernel
theorem dX6_partsOver_21 : decode cX6_partsOver 21 = .ok (.iaload, 1) := by decide +kernel
theorem dX6_partsOver_22 : decode cX6_partsOver 22 = .ok (.iadd, 1) := by decide +kernel
theorem dX6_partsOver_23 : decode cX6_partsOver 23 = .ok (.istore_n 2, 1) := by decide +kernel
theorem dX6_partsOver_24 : decode cX6_partsOver 24 = .ok (.iinc 3 1, 3) := by decide +kernel
theorem dX6_partsOver_27 : decode cX6_partsOver 27 = .ok (.goto (-15), 3) := by decide +kernel
theorem dX6_partsOver_30 : decode cX6_partsOver 30 = .ok (.iload_n 2, 1) := by decide +kernel
theorem dX6_partsOver_31 : decode cX6_partsOver 31 = .ok (.ireturn, 1) := by decide +kernel
theorem dX6_air_0 : decode cX6_air 0 = .ok (.aload_n 0, 1) := by decide +kernel
theorem dX6_air_1 : decode cX6_air 1 = .ok (.iload_n 1, 1) := by decide +kernel
theorem dX6_air_2 : decode cX6_air 2 = .ok (.invokevirtual 141, 3) := by decide +kernel
theorem dX6_air_5 : decode cX6_air 5 = .ok (.ifCond .eq 10, 3) := by decide +kernel
theorem dX6_air_8 : decode cX6_air 8 = .ok (.iload_n 2, 1) := by decide +kernel
theorem dX6_air_9 : decode cX6_air 9 = .ok (.invokestatic 144, 3) := by decide +kernel
theorem dX6_air_12 : decode cX6_air 12 = .ok (.ifCond .ne 9, 3) := by decide +kernel
theorem dX6_air_15 : decode cX6_air 15 = .ok (.aload_n 0, 1) := by decide +kernel
theorem dX6_air_16 : decode cX6_air 16 = .ok (.iconst 0, 1) := by decide +kernel
theorem dX6_air_17 : decode cX6_air 17 = .ok (.invokevirtual 78, 3) := by decide +kernel
theorem dX6_air_20 : decode cX6_air 20 = .ok (.ireturn, 1) := by decide +kernel
theorem dX6_air_21 : decode cX6_air 21 = .ok (.iconst 0, 1) := by decide +kernel
theorem dX6_air_22 : decode cX6_air 22 = .ok (.istore_n 3, 1) := by decide +kernel
theorem dX6_air_23 : decode cX6_air 23 = .ok (.iload_n 1, 1) := by decide +kernel
theorem dX6_air_24 : decode cX6_air 24 = .ok (.iconst 0, 1) := by decide +kernel
theorem dX6_air_25 : decode cX6_air 25 = .ok (.invokestatic 135, 3) := by decide +kernel
theorem dX6_air_28 : decode cX6_air 28 = .ok (.istore 4, 2) := by decide +kernel
theorem dX6_air_30 : decode cX6_air 30 = .ok (.iload 4, 2) := by decide +kernel
theorem dX6_air_32 : decode cX6_air 32 = .ok (.aload_n 0, 1) := by decide +kernel
theorem dX6_air_33 : decode cX6_air 33 = .ok (.iload_n 1, 1) := by decide +kernel
theorem dX6_air_34 : decode cX6_air 34 = .ok (.invokevirtual 147, 3) := by decide +kernel
theorem dX6_air_37 : decode cX6_air 37 = .ok (.if_icmp .gt 29, 3) := by decide +kernel
theorem dX6_air_40 : decode cX6_air 40 = .ok (.iload_n 3, 1) := by decide +kernel
theorem dX6_air_41 : decode cX6_air 41 = .ok (.aload_n 0, 1) := by decide +kernel
theorem dX6_air_42 : decode cX6_air 42 = .ok (.getfield 10, 3) := by decide +kernel
theorem dX6_air_45 : decode cX6_air 45 = .ok (.getfield 105, 3) := by decide +kernel
theorem dX6_air_48 : decode cX6_air 48 = .ok (.iload 4, 2) := by decide +kernel
theorem dX6_air_50 : decode cX6_air 50 = .ok (.aaload, 1) := by decide +kernel
theorem dX6_air_51 : decode cX6_air 51 = .ok (.getfield 150, 3) := by decide +kernel
theorem dX6_air_54 : decode cX6_air 54 = .ok (.iload_n 2, 1) := by decide +kernel
theorem dX6_air_55 : decode cX6_air 55 = .ok (.invokestatic 153, 3) := by decide +kernel
theorem dX6_air_58 : decode cX6_air 58 = .ok (.iadd, 1) := by decide +kernel
theorem dX6_air_59 : decode cX6_air 59 = .ok (.istore_n 3, 1) := by decide +kernel
theorem dX6_air_60 : decode cX6_air 60 = .ok (.iinc 4 1, 3) := by decide +kernel
theorem dX6_air_63 : decode cX6_air 63 = .ok (.goto (-33), 3) := by decide +kernel
theorem dX6_air_66 : decode cX6_air 66 = .ok (.iload_n 3, 1) := by decide +kernel
theorem dX6_air_67 : decode cX6_air 67 = .ok (.ireturn, 1) := by decide +kernel
theorem dX6_settled_0 : decode cX6_settled 0 = .ok (.aload_n 0, 1) := by decide +kernel
theorem dX6_settled_1 : decode cX6_settled 1 = .ok (.iload_n 1, 1) := by decide +kernel
theorem dX6_settled_2 : decode cX6_settled 2 = .ok (.invokevirtual 141, 3) := by decide +kernel
theorem dX6_settled_5 : decode cX6_settled 5 = .ok (.ifCond .eq 10, 3) := by decide +kernel
theorem dX6_settled_8 : decode cX6_settled 8 = .ok (.iload_n 2, 1) := by decide +kernel
theorem dX6_settled_9 : decode cX6_settled 9 = .ok (.invokestatic 144, 3) := by decide +kernel
theorem dX6_settled_12 : decode cX6_settled 12 = .ok (.ifCond .ne 9, 3) := by decide +kernel
theorem dX6_settled_15 : decode cX6_settled 15 = .ok (.aload_n 0, 1) := by decide +kernel
theorem dX6_settled_16 : decode cX6_settled 16 = .ok (.iconst 0, 1) := by decide +kernel
theorem dX6_settled_17 : decode cX6_settled 17 = .ok (.invokevirtual 78, 3) := by decide +kernel
theorem dX6_settled_20 : decode cX6_settled 20 = .ok (.ireturn, 1) := by decide +kernel
theorem dX6_settled_21 : decode cX6_settled 21 = .ok (.iconst 0, 1) := by decide +kernel
theorem dX6_settled_22 : decode cX6_settled 22 = .ok (.istore_n 3, 1) := by decide +kernel
theorem dX6_settled_23 : decode cX6_settled 23 = .ok (.iload_n 1, 1) := by decide +kernel
theorem dX6_settled_24 : decode cX6_settled 24 = .ok (.iconst 0, 1) := by decide +kernel
theorem dX6_settled_25 : decode cX6_settled 25 = .ok (.invokestatic 135, 3) := by decide +kernel
theorem dX6_settled_28 : decode cX6_settled 28 = .ok (.istore 4, 2) := by decide +kernel
theorem dX6_settled_30 : decode cX6_settled 30 = .ok (.iload 4, 2) := by decide +kernel
theorem dX6_settled_32 : decode cX6_settled 32 = .ok (.aload_n 0, 1) := by decide +kernel
theorem dX6_settled_33 : decode cX6_settled 33 = .ok (.iload_n 1, 1) := by decide +kernel
theorem dX6_settled_34 : decode cX6_settled 34 = .ok (.invokevirtual 147, 3) := by decide +kernel
theorem dX6_settled_37 : decode cX6_settled 37 = .ok (.if_icmp .gt 29, 3) := by decide +kernel
theorem dX6_settled_40 : decode cX6_settled 40 = .ok (.iload_n 3, 1) := by decide +kernel
theorem dX6_settled_41 : decode cX6_settled 41 = .ok (.aload_n 0, 1) := by decide +kernel
theorem dX6_settled_42 : decode cX6_settled 42 = .ok (.getfield 10, 3) := by decide +kernel
theorem dX6_settled_45 : decode cX6_settled 45 = .ok (.getfield 105, 3) := by decide +kernel
theorem dX6_settled_48 : decode cX6_settled 48 = .ok (.iload 4, 2) := by decide +kernel
theorem dX6_settled_50 : decode cX6_settled 50 = .ok (.aaload, 1) := by decide +kernel
theorem dX6_settled_51 : decode cX6_settled 51 = .ok (.getfield 157, 3) := by decide +kernel
theorem dX6_settled_54 : decode cX6_settled 54 = .ok (.iload_n 2, 1) := by decide +kernel
theorem dX6_settled_55 : decode cX6_settled 55 = .ok (.invokestatic 153, 3) := by decide +kernel
theorem dX6_settled_58 : decode cX6_settled 58 = .ok (.iadd, 1) := by decide +kernel
theorem dX6_settled_59 : decode cX6_settled 59 = .ok (.istore_n 3, 1) := by decide +kernel
theorem dX6_settled_60 : decode cX6_settled 60 = .ok (.iinc 4 1, 3) := by decide +kernel
theorem dX6_settled_63 : decode cX6_settled 63 = .ok (.goto (-33), 3) := by decide +kernel
theorem dX6_settled_66 : decode cX6_settled 66 = .ok (.iload_n 3, 1) := by decide +kernel
theorem dX6_settled_67 : decode cX6_settled 67 = .ok (.ireturn, 1) := by decide +kernel
theorem dX6_parts_0 : decode cX6_parts 0 = .ok (.aload_n 0, 1) := by decide +kernel
theorem dX6_parts_1 : decode cX6_parts 1 = .ok (.iload_n 1, 1) := by decide +kernel
theorem dX6_parts_2 : decode cX6_parts 2 = .ok (.invokevirtual 102, 3) := by decide +kernel
theorem dX6_parts_5 : decode cX6_parts 5 = .ok (.ifCond .eq 12, 3) := by decide +kernel
theorem dX6_parts_8 : decode cX6_parts 8 = .ok (.iload_n 2, 1) := by decide +kernel
theorem dX6_parts_9 : decode cX6_parts 9 = .ok (.iconst 0, 1) := by decide +kernel
theorem dX6_parts_10 : decode cX6_parts 10 = .ok (.iconst 2, 1) := by decide +kernel
theorem dX6_parts_11 : decode cX6_parts 11 = .ok (.invokestatic 74, 3) := by decide +kernel
theorem dX6_parts_14 : decode cX6_parts 14 = .ok (.ifCond .ne 9, 3) := by decide +kernel
theorem dX6_parts_17 : decode cX6_parts 17 = .ok (.aload_n 0, 1) := by decide +kernel
theorem dX6_parts_18 : decode cX6_parts 18 = .ok (.iconst 0, 1) := by decide +kernel
theorem dX6_parts_19 : decode cX6_parts 19 = .ok (.invokevirtual 78, 3) := by decide +kernel
theorem dX6_parts_22 : decode cX6_parts 22 = .ok (.ireturn, 1) := by decide +kernel
theorem dX6_parts_23 : decode cX6_parts 23 = .ok (.aload_n 0, 1) := by decide +kernel
theorem dX6_parts_24 : decode cX6_parts 24 = .ok (.getfield 10, 3) := by decide +kernel
theorem dX6_parts_27 : decode cX6_parts 27 = .ok (.getfield 105, 3) := by decide +kernel
theorem dX6_parts_30 : decode cX6_parts 30 = .ok (.iload_n 1, 1) := by decide +kernel
theorem dX6_parts_31 : decode cX6_parts 31 = .ok (.aaload, 1) := by decide +kernel
theorem dX6_parts_32 : decode cX6_parts 32 = .ok (.astore_n 3, 1) := by decide +kernel
theorem dX6_parts_33 : decode cX6_parts 33 = .ok (.iload_n 2, 1) := by decide +kernel
theorem dX6_parts_34 : decode cX6_parts 34 = .ok (.ifCond .ne 8, 3) := by decide +kernel
theorem dX6_parts_37 : decode cX6_parts 37 = .ok (.aload_n 3, 1) := by decide +kernel
theorem dX6_parts_38 : decode cX6_parts 38 = .ok (.getfield 160, 3) := by decide +kernel
theorem dX6_parts_41 : decode cX6_parts 41 = .ok (.ireturn, 1) := by decide +kernel
theorem dX6_parts_42 : decode cX6_parts 42 = .ok (.iload_n 2, 1) := by decide +kernel
theorem dX6_parts_43 : decode cX6_parts 43 = .ok (.iconst 1, 1) := by decide +kernel
theorem dX6_parts_44 : decode cX6_parts 44 = .ok (.if_icmp .ne 10, 3) := by decide +kernel
theorem dX6_parts_47 : decode cX6_parts 47 = .ok (.aload_n 3, 1) := by decide +kernel
theorem dX6_parts_48 : decode cX6_parts 48 = .ok (.getfield 163, 3) := by decide +kernel
theorem dX6_parts_51 : decode cX6_parts 51 = .ok (.goto 7, 3) := by decide +kernel
theorem dX6_parts_54 : decode cX6_parts 54 = .ok (.aload_n 3, 1) := by decide +kernel
theorem dX6_parts_55 : decode cX6_parts 55 = .ok (.getfield 166, 3) := by decide +kernel
theorem dX6_parts_58 : decode cX6_parts 58 = .ok (.ireturn, 1) := by decide +kernel
theorem dX6_thickest_0 : decode cX6_thickest 0 = .ok (.iconst 0, 1) := by decide +kernel
theorem dX6_thickest_1 : decode cX6_thickest 1 = .ok (.istore_n 1, 1) := by decide +kernel
theorem dX6_thickest_2 : decode cX6_thickest 2 = .ok (.iconst 0, 1) := by decide +kernel
theorem dX6_thickest_3 : decode cX6_thickest 3 = .ok (.istore_n 2, 1) := by decide +kernel
theorem dX6_thickest_4 : decode cX6_thickest 4 = .ok (.iconst 0, 1) := by decide +kernel
theorem dX6_thickest_5 : decode cX6_thickest 5 = .ok (.istore_n 3, 1) := by decide +kernel
theorem dX6_thickest_6 : decode cX6_thickest 6 = .ok (.iload_n 3, 1) := by decide +kernel
theorem dX6_thickest_7 : decode cX6_thickest 7 = .ok (.bipush 36, 2) := by decide +kernel
theorem dX6_thickest_9 : decode cX6_thickest 9 = .ok (.if_icmp .ge 30, 3) := by decide +kernel
theorem dX6_thickest_12 : decode cX6_thickest 12 = .ok (.aload_n 0, 1) := by decide +kernel
theorem dX6_thickest_13 : decode cX6_thickest 13 = .ok (.getfield 10, 3) := by decide +kernel
theorem dX6_thickest_16 : decode cX6_thickest 16 = .ok (.iload_n 3, 1) := by decide +kernel
theorem dX6_thickest_17 : decode cX6_thickest 17 = .ok (.invokevirtual 169, 3) := by decide +kernel
theorem dX6_thickest_20 : decode cX6_thickest 20 = .ok (.istore 4, 2) := by decide +kernel
theorem dX6_thickest_22 : decode cX6_thickest 22 = .ok (.iload 4, 2) := by decide +kernel
theorem dX6_thickest_24 : decode cX6_thickest 24 = .ok (.iload_n 2, 1) := by decide +kernel
theorem dX6_thickest_25 : decode cX6_thickest 25 = .ok (.if_icmp .le 8, 3) := by decide +kernel
theorem dX6_thickest_28 : decode cX6_thickest 28 = .ok (.iload 4, 2) := by decide +kernel
theorem dX6_thickest_30 : decode cX6_thickest 30 = .ok (.istore_n 2, 1) := by decide +kernel
theorem dX6_thickest_31 : decode cX6_thickest 31 = .ok (.iload_n 3, 1) := by decide +kernel
theorem dX6_thickest_32 : decode cX6_thickest 32 = .ok (.istore_n 1, 1) := by decide +kernel
theorem dX6_thickest_33 : decode cX6_thickest 33 = .ok (.iinc 3 1, 3) := by decide +kernel
theorem dX6_thickest_36 : decode cX6_thickest 36 = .ok (.goto (-30), 3) := by decide +kernel
theorem dX6_thickest_39 : decode cX6_thickest 39 = .ok (.iload_n 1, 1) := by decide +kernel
theorem dX6_thickest_40 : decode cX6_thickest 40 = .ok (.ireturn, 1) := by decide +kernel
theorem dX6_touched_0 : decode cX6_touched 0 = .ok (.aload_n 0, 1) := by decide +kernel
theorem dX6_touched_1 : decode cX6_touched 1 = .ok (.iload_n 1, 1) := by decide +kernel
theorem dX6_touched_2 : decode cX6_touched 2 = .ok (.invokevirtual 102, 3) := by decide +kernel
theorem dX6_touched_5 : decode cX6_touched 5 = .ok (.ifCond .ne 9, 3) := by decide +kernel
theorem dX6_touched_8 : decode cX6_touched 8 = .ok (.aload_n 0, 1) := by decide +kernel
theorem dX6_touched_9 : decode cX6_touched 9 = .ok (.iconst 0, 1) := by decide +kernel
theorem dX6_touched_10 : decode cX6_touched 10 = .ok (.invokevirtual 78, 3) := by decide +kernel
theorem dX6_touched_13 : decode cX6_touched 13 = .ok (.ireturn, 1) := by decide +kernel
theorem dX6_touched_14 : decode cX6_touched 14 = .ok (.aload_n 0, 1) := by decide +kernel
theorem dX6_touched_15 : decode cX6_touched 15 = .ok (.getfield 10, 3) := by decide +kernel
theorem dX6_touched_18 : decode cX6_touched 18 = .ok (.getfield 105, 3) := by decide +kernel
theorem dX6_touched_21 : decode cX6_touched 21 = .ok (.iload_n 1, 1) := by decide +kernel
theorem dX6_touched_22 : decode cX6_touched 22 = .ok (.aaload, 1) := by decide +kernel
theorem dX6_touched_23 : decode cX6_touched 23 = .ok (.getfield 157, 3) := by decide +kernel
theorem dX6_touched_26 : decode cX6_touched 26 = .ok (.astore_n 2, 1) := by decide +kernel
theorem dX6_touched_27 : decode cX6_touched 27 = .ok (.iconst 0, 1) := by decide +kernel
theorem dX6_touched_28 : decode cX6_touched 28 = .ok (.istore_n 3, 1) := by decide +kernel
theorem dX6_touched_29 : decode cX6_touched 29 = .ok (.iconst 0, 1) := by decide +kernel
theorem dX6_touched_30 : decode cX6_touched 30 = .ok (.istore 4, 2) := by decide +kernel
theorem dX6_touched_32 : decode cX6_touched 32 = .ok (.iload 4, 2) := by decide +kernel
theorem dX6_touched_34 : decode cX6_touched 34 = .ok (.bipush 36, 2) := by decide +kernel
theorem dX6_touched_36 : decode cX6_touched 36 = .ok (.if_icmp .ge 44, 3) := by decide +kernel
theorem dX6_touched_39 : decode cX6_touched 39 = .ok (.aload_n 0, 1) := by decide +kernel
theorem dX6_touched_40 : decode cX6_touched 40 = .ok (.getfield 10, 3) := by decide +kernel
theorem dX6_touched_43 : decode cX6_touched 43 = .ok (.getfield 82, 3) := by decide +kernel
theorem dX6_touched_46 : decode cX6_touched 46 = .ok (.iload 4, 2) := by decide +kernel
theorem dX6_touched_48 : decode cX6_touched 48 = .ok (.iaload, 1) := by decide +kernel
theorem dX6_touched_49 : decode cX6_touched 49 = .ok (.ifCond .lt 25, 3) := by decide +kernel
theorem dX6_touched_52 : decode cX6_touched 52 = .ok (.aload_n 2, 1) := by decide +kernel
theorem dX6_touched_53 : decode cX6_touched 53 = .ok (.iload 4, 2) := by decide +kernel
theorem dX6_touched_55 : decode cX6_touched 55 = .ok (.iaload, 1) := by decide +kernel
theorem dX6_touched_56 : decode cX6_touched 56 = .ok (.ifCond .le 18, 3) := by decide +kernel
theorem dX6_touched_59 : decode cX6_touched 59 = .ok (.iload_n 3, 1) := by decide +kernel
theorem dX6_touched_60 : decode cX6_touched 60 = .ok (.iconst 1, 1) := by decide +kernel
theorem dX6_touched_61 : decode cX6_touched 61 = .ok (.aload_n 0, 1) := by decide +kernel
theorem dX6_touched_62 : decode cX6_touched 62 = .ok (.getfield 10, 3) := by decide +kernel
theorem dX6_touched_65 : decode cX6_touched 65 = .ok (.getfield 82, 3) := by decide +kernel
theorem dX6_touched_68 : decode cX6_touched 68 = .ok (.iload 4, 2) := by decide +kernel
theorem dX6_touched_70 : decode cX6_touched 70 = .ok (.iaload, 1) := by decide +kernel
theorem dX6_touched_71 : decode cX6_touched 71 = .ok (.ishl, 1) := by decide +kernel
theorem dX6_touched_72 : decode cX6_touched 72 = .ok (.ior, 1) := by decide +kernel
theorem dX6_touched_73 : decode cX6_touched 73 = .ok (.istore_n 3, 1) := by decide +kernel
theorem dX6_touched_74 : decode cX6_touched 74 = .ok (.iinc 4 1, 3) := by decide +kernel
theorem dX6_touched_77 : decode cX6_touched 77 = .ok (.goto (-45), 3) := by decide +kernel
theorem dX6_touched_80 : decode cX6_touched 80 = .ok (.iload_n 3, 1) := by decide +kernel
theorem dX6_touched_81 : decode cX6_touched 81 = .ok (.ireturn, 1) := by decide +kernel
theorem dX6_hasHours_0 : decode cX6_hasHours 0 = .ok (.aload_n 0, 1) := by decide +kernel
theorem dX6_hasHours_1 : decode cX6_hasHours 1 = .ok (.getfield 10, 3) := by decide +kernel
theorem dX6_hasHours_4 : decode cX6_hasHours 4 = .ok (.getfield 119, 3) := by decide +kernel
theorem dX6_hasHours_7 : decode cX6_hasHours 7 = .ok (.iload_n 1, 1) := by decide +kernel
theorem dX6_hasHours_8 : decode cX6_hasHours 8 = .ok (.iadd, 1) := by decide +kernel
theorem dX6_hasHours_9 : decode cX6_hasHours 9 = .ok (.sipush 9999, 3) := by decide +kernel
theorem dX6_hasHours_12 : decode cX6_hasHours 12 = .ok (.if_icmp .gt 7, 3) := by decide +kernel
theorem dX6_hasHours_15 : decode cX6_hasHours 15 = .ok (.iconst 1, 1) := by decide +kernel
theorem dX6_hasHours_16 : decode cX6_hasHours 16 = .ok (.goto 4, 3) := by decide +kernel
theorem dX6_hasHours_19 : decode cX6_hasHours 19 = .ok (.iconst 0, 1) := by decide +kernel
theorem dX6_hasHours_20 : decode cX6_hasHours 20 = .ok (.ireturn, 1) := by decide +kernel
theorem dX6_hours_0 : decode cX6_hours 0 = .ok (.iload_n 1, 1) := by decide +kernel
theorem dX6_hours_1 : decode cX6_hours 1 = .ok (.iconst 1, 1) := by decide +kernel
theorem dX6_hours_2 : decode cX6_hours 2 = .ok (.bipush 48, 2) := by decide +kernel
theorem dX6_hours_4 : decode cX6_hours 4 = .ok (.invokestatic 74, 3) := by decide +kernel
theorem dX6_hours_7 : decode cX6_hours 7 = .ok (.ifCond .ne 9, 3) := by decide +kernel
theorem dX6_hours_10 : decode cX6_hours 10 = .ok (.aload_n 0, 1) := by decide +kernel
theorem dX6_hours_11 : decode cX6_hours 11 = .ok (.iconst 0, 1) := by decide +kernel
theorem dX6_hours_12 : decode cX6_hours 12 = .ok (.invokevirtual 78, 3) := by decide +kernel
theorem dX6_hours_15 : decode cX6_hours 15 = .ok (.ireturn, 1) := by decide +kernel
theorem dX6_hours_16 : decode cX6_hours 16 = .ok (.aload_n 0, 1) := by decide +kernel
theorem dX6_hours_17 : decode cX6_hours 17 = .ok (.iload_n 1, 1) := by decide +kernel
theorem dX6_hours_18 : decode cX6_hours 18 = .ok (.invokevirtual 172, 3) := by decide +kernel
theorem dX6_hours_21 : decode cX6_hours 21 = .ok (.ifCond .ne 9, 3) := by decide +kernel
theorem dX6_hours_24 : decode cX6_hours 24 = .ok (.aload_n 0, 1) := by decide +kernel
theorem dX6_hours_25 : decode cX6_hours 25 = .ok (.iconst 4, 1) := by decide +kernel
theorem dX6_hours_26 : decode cX6_hours 26 = .ok (.invokevirtual 78, 3) := by decide +kernel
theorem dX6_hours_29 : decode cX6_hours 29 = .ok (.ireturn, 1) := by decide +kernel
theorem dX6_hours_30 : decode cX6_hours 30 = .ok (.aload_n 0, 1) := by decide +kernel
theorem dX6_hours_31 : decode cX6_hours 31 = .ok (.getfield 50, 3) := by decide +kernel
theorem dX6_hours_34 : decode cX6_hours 34 = .ok (.invokevirtual 175, 3) := by decide +kernel
theorem dX6_hours_37 : decode cX6_hours 37 = .ok (.iconst 0, 1) := by decide +kernel
theorem dX6_hours_38 : decode cX6_hours 38 = .ok (.istore_n 2, 1) := by decide +kernel
theorem dX6_hours_39 : decode cX6_hours 39 = .ok (.iload_n 2, 1) := by decide +kernel
theorem dX6_hours_40 : decode cX6_hours 40 = .ok (.aload_n 0, 1) := by decide +kernel
theorem dX6_hours_41 : decode cX6_hours 41 = .ok (.getfield 10, 3) := by decide +kernel
theorem dX6_hours_44 : decode cX6_hours 44 = .ok (.getfield 178, 3) := by decide +kernel
theorem dX6_hours_47 : decode cX6_hours 47 = .ok (.if_icmp .ge 31, 3) := by decide +kernel
theorem dX6_hours_50 : decode cX6_hours 50 = .ok (.aload_n 0, 1) := by decide +kernel
theorem dX6_hours_51 : decode cX6_hours 51 = .ok (.getfield 10, 3) := by decide +kernel
theorem dX6_hours_54 : decode cX6_hours 54 = .ok (.aload_n 0, 1) := by decide +kernel
theorem dX6_hours_55 : decode cX6_hours 55 = .ok (.getfield 10, 3) := by decide +kernel
theorem dX6_hours_58 : decode cX6_hours 58 = .ok (.getfield 105, 3) := by decide +kernel
theorem dX6_hours_61 : decode cX6_hours 61 = .ok (.iload_n 2, 1) := by decide +kernel
theorem dX6_hours_62 : decode cX6_hours 62 = .ok (.aaload, 1) := by decide +kernel
theorem dX6_hours_63 : decode cX6_hours 63 = .ok (.iconst 0, 1) := by decide +kernel
theorem dX6_hours_64 : decode cX6_hours 64 = .ok (.iload_n 1, 1) := by decide +kernel
theorem dX6_hours_65 : decode cX6_hours 65 = .ok (.aload_n 0, 1) := by decide +kernel
theorem dX6_hours_66 : decode cX6_hours 66 = .ok (.getfield 50, 3) := by decide +kernel
theorem dX6_hours_69 : decode cX6_hours 69 = .ok (.invokevirtual 181, 3) := by decide +kernel
theorem dX6_hours_72 : decode cX6_hours 72 = .ok (.iinc 2 1, 3) := by decide +kernel
theorem dX6_hours_75 : decode cX6_hours 75 = .ok (.goto (-36), 3) := by decide +kernel
theorem dX6_hours_78 : decode cX6_hours 78 = .ok (.iconst 0, 1) := by decide +kernel
theorem dX6_hours_79 : decode cX6_hours 79 = .ok (.istore_n 2, 1) := by decide +kernel
theorem dX6_hours_80 : decode cX6_hours 80 = .ok (.iload_n 2, 1) := by decide +kernel
theorem dX6_hours_81 : decode cX6_hours 81 = .ok (.bipush 6, 2) := by decide +kernel
theorem dX6_hours_83 : decode cX6_hours 83 = .ok (.if_icmp .ge 30, 3) := by decide +kernel
theorem dX6_hours_86 : decode cX6_hours 86 = .ok (.aload_n 0, 1) := by decide +kernel
theorem dX6_hours_87 : decode cX6_hours 87 = .ok (.getfield 10, 3) := by decide +kernel
theorem dX6_hours_90 : decode cX6_hours 90 = .ok (.getfield 132, 3) := by decide +kernel
theorem dX6_hours_93 : decode cX6_hours 93 = .ok (.iload_n 2, 1) := by decide +kernel
theorem dX6_hours_94 : decode cX6_hours 94 = .ok (.dup2, 1) := by decide +kernel
theorem dX6_hours_95 : decode cX6_hours 95 = .ok (.iaload, 1) := by decide +kernel
theorem dX6_hours_96 : decode cX6_hours 96 = .ok (.aload_n 0, 1) := by decide +kernel
theorem dX6_hours_97 : decode cX6_hours 97 = .ok (.getfield 50, 3) := by decide +kernel
theorem dX6_hours_100 : decode cX6_hours 100 = .ok (.getfield 185, 3) := by decide +kernel
theorem dX6_hours_103 : decode cX6_hours 103 = .ok (.iload_n 2, 1) := by decide +kernel
theorem dX6_hours_104 : decode cX6_hours 104 = .ok (.iaload, 1) := by decide +kernel
theorem dX6_hours_105 : decode cX6_hours 105 = .ok (.iadd, 1) := by decide +kernel
theorem dX6_hours_106 : decode cX6_hours 106 = .ok (.iastore, 1) := by decide +kernel
theorem dX6_hours_107 : decode cX6_hours 107 = .ok (.iinc 2 1, 3) := by decide +kernel
theorem dX6_hours_110 : decode cX6_hours 110 = .ok (.goto (-30), 3) := by decide +kernel
theorem dX6_hours_113 : decode cX6_hours 113 = .ok (.aload_n 0, 1) := by decide +kernel
theorem dX6_hours_114 : decode cX6_hours 114 = .ok (.getfield 10, 3) := by decide +kernel
theorem dX6_hours_117 : decode cX6_hours 117 = .ok (.dup, 1) := by decide +kernel
theorem dX6_hours_118 : decode cX6_hours 118 = .ok (.getfield 119, 3) := by decide +kernel
theorem dX6_hours_121 : decode cX6_hours 121 = .ok (.iload_n 1, 1) := by decide +kernel
theorem dX6_hours_122 : decode cX6_hours 122 = .ok (.iadd, 1) := by decide +kernel
theorem dX6_hours_123 : decode cX6_hours 123 = .ok (.putfield 119, 3) := by decide +kernel
theorem dX6_hours_126 : decode cX6_hours 126 = .ok (.aload_n 0, 1) := by decide +kernel
theorem dX6_hours_127 : decode cX6_hours 127 = .ok (.getfield 50, 3) := by decide +kernel
theorem dX6_hours_130 : decode cX6_hours 130 = .ok (.getfield 188, 3) := by decide +kernel
theorem dX6_hours_133 : decode cX6_hours 133 = .ok (.ireturn, 1) := by decide +kernel
theorem dX6_ahead_0 : decode cX6_ahead 0 = .ok (.iload_n 1, 1) := by decide +kernel
theorem dX6_ahead_1 : decode cX6_ahead 1 = .ok (.iconst 0, 1) := by decide +kernel
theorem dX6_ahead_2 : decode cX6_ahead 2 = .ok (.bipush 72, 2) := by decide +kernel
theorem dX6_ahead_4 : decode cX6_ahead 4 = .ok (.invokestatic 74, 3) := by decide +kernel
theorem dX6_ahead_7 : decode cX6_ahead 7 = .ok (.ifCond .eq 13, 3) := by decide +kernel
theorem dX6_ahead_10 : decode cX6_ahead 10 = .ok (.iload_n 2, 1) := by decide +kernel
theorem dX6_ahead_11 : decode cX6_ahead 11 = .ok (.iconst 0, 1) := by decide +kernel
theorem dX6_ahead_12 : decode cX6_ahead 12 = .ok (.bipush 14, 2) := by decide +kernel
theorem dX6_ahead_14 : decode cX6_ahead 14 = .ok (.invokestatic 74, 3) := by decide +kernel
theorem dX6_ahead_17 : decode cX6_ahead 17 = .ok (.ifCond .ne 9, 3) := by decide +kernel
theorem dX6_ahead_20 : decode cX6_ahead 20 = .ok (.aload_n 0, 1) := by decide +kernel
theorem dX6_ahead_21 : decode cX6_ahead 21 = .ok (.iconst 0, 1) := by decide +kernel
theorem dX6_ahead_22 : decode cX6_ahead 22 = .ok (.invokevirtual 78, 3) := by decide +kernel
theorem dX6_ahead_25 : decode cX6_ahead 25 = .ok (.ireturn, 1) := by decide +kernel
theorem dX6_ahead_26 : decode cX6_ahead 26 = .ok (.aload_n 0, 1) := by decide +kernel
theorem dX6_ahead_27 : decode cX6_ahead 27 = .ok (.iload_n 1, 1) := by decide +kernel
theorem dX6_ahead_28 : decode cX6_ahead 28 = .ok (.invokevirtual 172, 3) := by decide +kernel
theorem dX6_ahead_31 : decode cX6_ahead 31 = .ok (.ifCond .ne 9, 3) := by decide +kernel
theorem dX6_ahead_34 : decode cX6_ahead 34 = .ok (.aload_n 0, 1) := by decide +kernel
theorem dX6_ahead_35 : decode cX6_ahead 35 = .ok (.iconst 4, 1) := by decide +kernel
theorem dX6_ahead_36 : decode cX6_ahead 36 = .ok (.invokevirtual 78, 3) := by decide +kernel
theorem dX6_ahead_39 : decode cX6_ahead 39 = .ok (.ireturn, 1) := by decide +kernel
theorem dX6_ahead_40 : decode cX6_ahead 40 = .ok (.iconst 0, 1) := by decide +kernel
theorem dX6_ahead_41 : decode cX6_ahead 41 = .ok (.istore_n 3, 1) := by decide +kernel
theorem dX6_ahead_42 : decode cX6_ahead 42 = .ok (.iconst 0, 1) := by decide +kernel
theorem dX6_ahead_43 : decode cX6_ahead 43 = .ok (.istore 4, 2) := by decide +kernel
theorem dX6_ahead_45 : decode cX6_ahead 45 = .ok (.aload_n 0, 1) := by decide +kernel
theorem dX6_ahead_46 : decode cX6_ahead 46 = .ok (.getfield 50, 3) := by decide +kernel
theorem dX6_ahead_49 : decode cX6_ahead 49 = .ok (.invokevirtual 175, 3) := by decide +kernel
theorem dX6_ahead_52 : decode cX6_ahead 52 = .ok (.iconst 0, 1) := by decide +kernel
theorem dX6_ahead_53 : decode cX6_ahead 53 = .ok (.istore 5, 2) := by decide +kernel
theorem dX6_ahead_55 : decode cX6_ahead 55 = .ok (.iload 5, 2) := by decide +kernel
theorem dX6_ahead_57 : decode cX6_ahead 57 = .ok (.aload_n 0, 1) := by decide +kernel
theorem dX6_ahead_58 : decode cX6_ahead 58 = .ok (.getfield 10, 3) := by decide +kernel
theorem dX6_ahead_61 : decode cX6_ahead 61 = .ok (.getfield 178, 3) := by decide +kernel
theorem dX6_ahead_64 : decode cX6_ahead 64 = .ok (.if_icmp .ge 65, 3) := by decide +kernel
theorem dX6_ahead_67 : decode cX6_ahead 67 = .ok (.aload_n 0, 1) := by decide +kernel
theorem dX6_ahead_68 : decode cX6_ahead 68 = .ok (.getfield 43, 3) := by decide +kernel
theorem dX6_ahead_71 : decode cX6_ahead 71 = .ok (.aload_n 0, 1) := by decide +kernel
theorem dX6_ahead_72 : decode cX6_ahead 72 = .ok (.getfield 10, 3) := by decide +kernel
theorem dX6_ahead_75 : decode cX6_ahead 75 = .ok (.getfield 105, 3) := by decide +kernel
theorem dX6_ahead_78 : decode cX6_ahead 78 = .ok (.iload 5, 2) := by decide +kernel
theorem dX6_ahead_80 : decode cX6_ahead 80 = .ok (.aaload, 1) := by decide +kernel
theorem dX6_ahead_81 : decode cX6_ahead 81 = .ok (.invokevirtual 191, 3) := by decide +kernel
theorem dX6_ahead_84 : decode cX6_ahead 84 = .ok (.aload_n 0, 1) := by decide +kernel
theorem dX6_ahead_85 : decode cX6_ahead 85 = .ok (.getfield 10, 3) := by decide +kernel
theorem dX6_ahead_88 : decode cX6_ahead 88 = .ok (.aload_n 0, 1) := by decide +kernel
theorem dX6_ahead_89 : decode cX6_ahead 89 = .ok (.getfield 43, 3) := by decide +kernel
theorem dX6_ahead_92 : decode cX6_ahead 92 = .ok (.iconst 0, 1) := by decide +kernel
theorem dX6_ahead_93 : decode cX6_ahead 93 = .ok (.iload_n 1, 1) := by decide +kernel
theorem dX6_ahead_94 : decode cX6_ahead 94 = .ok (.aload_n 0, 1) := by decide +kernel
theorem dX6_ahead_95 : decode cX6_ahead 95 = .ok (.getfield 50, 3) := by decide +kernel
theorem dX6_ahead_98 : decode cX6_ahead 98 = .ok (.invokevirtual 181, 3) := by decide +kernel
theorem dX6_ahead_101 : decode cX6_ahead 101 = .ok (.iload_n 3, 1) := by decide +kernel
theorem dX6_ahead_102 : decode cX6_ahead 102 = .ok (.aload_n 0, 1) := by decide +kernel
theorem dX6_ahead_103 : decode cX6_ahead 103 = .ok (.getfield 43, 3) := by decide +kernel
theorem dX6_ahead_106 : decode cX6_ahead 106 = .ok (.getfield 163, 3) := by decide +kernel
theorem dX6_ahead_109 : decode cX6_ahead 109 = .ok (.iadd, 1) := by decide +kernel
theorem dX6_ahead_110 : decode cX6_ahead 110 = .ok (.istore_n 3, 1) := by decide +kernel
theorem dX6_ahead_111 : decode cX6_ahead 111 = .ok (.iload 4, 2) := by decide +kernel
theorem dX6_ahead_113 : decode cX6_ahead 113 = .ok (.aload_n 0, 1) := by decide +kernel
theorem dX6_ahead_114 : decode cX6_ahead 114 = .ok (.getfield 43, 3) := by decide +kernel
theorem dX6_ahead_117 : decode cX6_ahead 117 = .ok (.getfield 160, 3) := by decide +kernel
theorem dX6_ahead_120 : decode cX6_ahead 120 = .ok (.iadd, 1) := by decide +kernel
theorem dX6_ahead_121 : decode cX6_ahead 121 = .ok (.istore 4, 2) := by decide +kernel
theorem dX6_ahead_123 : decode cX6_ahead 123 = .ok (.iinc 5 1, 3) := by decide +kernel
theorem dX6_ahead_126 : decode cX6_ahead 126 = .ok (.goto (-71), 3) := by decide +kernel
theorem dX6_ahead_129 : decode cX6_ahead 129 = .ok (.iload_n 2, 1) := by decide +kernel
theorem dX6_ahead_130 : decode cX6_ahead 130 = .ok (.ifCond .ne 11, 3) := by decide +kernel
theorem dX6_ahead_133 : decode cX6_ahead 133 = .ok (.aload_n 0, 1) := by decide +kernel
theorem dX6_ahead_134 : decode cX6_ahead 134 = .ok (.getfield 50, 3) := by decide +kernel
theorem dX6_ahead_137 : decode cX6_ahead 137 = .ok (.getfield 188, 3) := by decide +kernel
theorem dX6_ahead_140 : decode cX6_ahead 140 = .ok (.ireturn, 1) := by decide +kernel
theorem dX6_ahead_141 : decode cX6_ahead 141 = .ok (.iload_n 2, 1) := by decide +kernel
theorem dX6_ahead_142 : decode cX6_ahead 142 = .ok (.iconst 2, 1) := by decide +kernel
theorem dX6_ahead_143 : decode cX6_ahead 143 = .ok (.if_icmp .gt 15, 3) := by decide +kernel
theorem dX6_ahead_146 : decode cX6_ahead 146 = .ok (.iload_n 2, 1) := by decide +kernel
theorem dX6_ahead_147 : decode cX6_ahead 147 = .ok (.iconst 1, 1) := by decide +kernel
theorem dX6_ahead_148 : decode cX6_ahead 148 = .ok (.if_icmp .ne 7, 3) := by decide +kernel
theorem dX6_ahead_151 : decode cX6_ahead 151 = .ok (.iload_n 3, 1) := by decide +kernel
theorem dX6_ahead_152 : decode cX6_ahead 152 = .ok (.goto 5, 3) := by decide +kernel
theorem dX6_ahead_155 : decode cX6_ahead 155 = .ok (.iload 4, 2) := by decide +kernel
theorem dX6_ahead_157 : decode cX6_ahead 157 = .ok (.ireturn, 1) := by decide +kernel
theorem dX6_ahead_158 : decode cX6_ahead 158 = .ok (.iload_n 2, 1) := by decide +kernel
theorem dX6_ahead_159 : decode cX6_ahead 159 = .ok (.iconst 3, 1) := by decide +kernel
theorem dX6_ahead_160 : decode cX6_ahead 160 = .ok (.isub, 1) := by decide +kernel
theorem dX6_ahead_161 : decode cX6_ahead 161 = .ok (.bipush 6, 2) := by decide +kernel
theorem dX6_ahead_163 : decode cX6_ahead 163 = .ok (.irem, 1) := by decide +kernel
theorem dX6_ahead_164 : decode cX6_ahead 164 = .ok (.istore 5, 2) := by decide +kernel
theorem dX6_ahead_166 : decode cX6_ahead 166 = .ok (.iload_n 2, 1) := by decide +kernel
theorem dX6_ahead_167 : decode cX6_ahead 167 = .ok (.bipush 9, 2) := by decide +kernel
theorem dX6_ahead_169 : decode cX6_ahead 169 = .ok (.if_icmp .ge 27, 3) := by decide +kernel
theorem dX6_ahead_172 : decode cX6_ahead 172 = .ok (.aload_n 0, 1) := by decide +kernel
theorem dX6_ahead_173 : decode cX6_ahead 173 = .ok (.getfield 10, 3) := by decide +kernel
theorem dX6_ahead_176 : decode cX6_ahead 176 = .ok (.getfield 132, 3) := by decide +kernel
theorem dX6_ahead_179 : decode cX6_ahead 179 = .ok (.iload 5, 2) := by decide +kernel
theorem dX6_ahead_181 : decode cX6_ahead 181 = .ok (.iaload, 1) := by decide +kernel
theorem dX6_ahead_182 : decode cX6_ahead 182 = .ok (.aload_n 0, 1) := by decide +kernel
theorem dX6_ahead_183 : decode cX6_ahead 183 = .ok (.getfield 50, 3) := by decide +kernel
theorem dX6_ahead_186 : decode cX6_ahead 186 = .ok (.getfield 185, 3) := by decide +kernel
theorem dX6_ahead_189 : decode cX6_ahead 189 = .ok (.iload 5, 2) := by decide +kernel
theorem dX6_ahead_191 : decode cX6_ahead 191 = .ok (.iaload, 1) := by decide +kernel
theorem dX6_ahead_192 : decode cX6_ahead 192 = .ok (.iadd, 1) := by decide +kernel
theorem dX6_ahead_193 : decode cX6_ahead 193 = .ok (.goto 13, 3) := by decide +kernel
theorem dX6_ahead_196 : decode cX6_ahead 196 = .ok (.aload_n 0, 1) := by decide +kernel
theorem dX6_ahead_197 : decode cX6_ahead 197 = .ok (.getfield 50, 3) := by decide +kernel
theorem dX6_ahead_200 : decode cX6_ahead 200 = .ok (.getfield 195, 3) := by decide +kernel
theorem dX6_ahead_203 : decode cX6_ahead 203 = .ok (.iload 5, 2) := by decide +kernel
theorem dX6_ahead_205 : decode cX6_ahead 205 = .ok (.iaload, 1) := by decide +kernel
theorem dX6_ahead_206 : decode cX6_ahead 206 = .ok (.ireturn, 1) := by decide +kernel
theorem dX6_clear_0 : decode cX6_clear 0 = .ok (.aload_n 0, 1) := by decide +kernel
theorem dX6_clear_1 : decode cX6_clear 1 = .ok (.iload_n 1, 1) := by decide +kernel
theorem dX6_clear_2 : decode cX6_clear 2 = .ok (.invokevirtual 102, 3) := by decide +kernel
theorem dX6_clear_5 : decode cX6_clear 5 = .ok (.ifCond .ne 9, 3) := by decide +kernel
theorem dX6_clear_8 : decode cX6_clear 8 = .ok (.aload_n 0, 1) := by decide +kernel
theorem dX6_clear_9 : decode cX6_clear 9 = .ok (.iconst 0, 1) := by decide +kernel
theorem dX6_clear_10 : decode cX6_clear 10 = .ok (.invokevirtual 78, 3) := by decide +kernel
theorem dX6_clear_13 : decode cX6_clear 13 = .ok (.ireturn, 1) := by decide +kernel
theorem dX6_clear_14 : decode cX6_clear 14 = .ok (.aload_n 0, 1) := by decide +kernel
theorem dX6_clear_15 : decode cX6_clear 15 = .ok (.bipush 72, 2) := by decide +kernel
theorem dX6_clear_17 : decode cX6_clear 17 = .ok (.invokevirtual 172, 3) := by decide +kernel
theorem dX6_clear_20 : decode cX6_clear 20 = .ok (.ifCond .ne 9, 3) := by decide +kernel
theorem dX6_clear_23 : decode cX6_clear 23 = .ok (.aload_n 0, 1) := by decide +kernel
theorem dX6_clear_24 : decode cX6_clear 24 = .ok (.iconst 4, 1) := by decide +kernel
theorem dX6_clear_25 : decode cX6_clear 25 = .ok (.invokevirtual 78, 3) := by decide +kernel
theorem dX6_clear_28 : decode cX6_clear 28 = .ok (.ireturn, 1) := by decide +kernel
theorem dX6_clear_29 : decode cX6_clear 29 = .ok (.aload_n 0, 1) := by decide +kernel
theorem dX6_clear_30 : decode cX6_clear 30 = .ok (.getfield 50, 3) := by decide +kernel
theorem dX6_clear_33 : decode cX6_clear 33 = .ok (.invokevirtual 175, 3) := by decide +kernel
theorem dX6_clear_36 : decode cX6_clear 36 = .ok (.aload_n 0, 1) := by decide +kernel
theorem dX6_clear_37 : decode cX6_clear 37 = .ok (.getfield 43, 3) := by decide +kernel
theorem dX6_clear_40 : decode cX6_clear 40 = .ok (.aload_n 0, 1) := by decide +kernel
theorem dX6_clear_41 : decode cX6_clear 41 = .ok (.getfield 10, 3) := by decide +kernel
theorem dX6_clear_44 : decode cX6_clear 44 = .ok (.getfield 105, 3) := by decide +kernel
theorem dX6_clear_47 : decode cX6_clear 47 = .ok (.iload_n 1, 1) := by decide +kernel
theorem dX6_clear_48 : decode cX6_clear 48 = .ok (.aaload, 1) := by decide +kernel
theorem dX6_clear_49 : decode cX6_clear 49 = .ok (.invokevirtual 191, 3) := by decide +kernel
theorem dX6_clear_52 : decode cX6_clear 52 = .ok (.iconst 0, 1) := by decide +kernel
theorem dX6_clear_53 : decode cX6_clear 53 = .ok (.istore_n 2, 1) := by decide +kernel
theorem dX6_clear_54 : decode cX6_clear 54 = .ok (.iload_n 2, 1) := by decide +kernel
theorem dX6_clear_55 : decode cX6_clear 55 = .ok (.bipush 72, 2) := by decide +kernel
theorem dX6_clear_57 : decode cX6_clear 57 = .ok (.if_icmp .gt 42, 3) := by decide +kernel
theorem dX6_clear_60 : decode cX6_clear 60 = .ok (.aload_n 0, 1) := by decide +kernel
theorem dX6_clear_61 : decode cX6_clear 61 = .ok (.getfield 43, 3) := by decide +kernel
theorem dX6_clear_64 : decode cX6_clear 64 = .ok (.getfield 150, 3) := by decide +kernel
theorem dX6_clear_67 : decode cX6_clear 67 = .ok (.iconst (-1), 1) := by decide +kernel
theorem dX6_clear_68 : decode cX6_clear 68 = .ok (.invokestatic 153, 3) := by decide +kernel
theorem dX6_clear_71 : decode cX6_clear 71 = .ok (.ifCond .ne 5, 3) := by decide +kernel
theorem dX6_clear_74 : decode cX6_clear 74 = .ok (.iload_n 2, 1) := by decide +kernel
theorem dX6_clear_75 : decode cX6_clear 75 = .ok (.ireturn, 1) := by decide +kernel
theorem dX6_clear_76 : decode cX6_clear 76 = .ok (.aload_n 0, 1) := by decide +kernel
theorem dX6_clear_77 : decode cX6_clear 77 = .ok (.getfield 10, 3) := by decide +kernel
theorem dX6_clear_80 : decode cX6_clear 80 = .ok (.aload_n 0, 1) := by decide +kernel
theorem dX6_clear_81 : decode cX6_clear 81 = .ok (.getfield 43, 3) := by decide +kernel
theorem dX6_clear_84 : decode cX6_clear 84 = .ok (.iload_n 2, 1) := by decide +kernel
theorem dX6_clear_85 : decode cX6_clear 85 = .ok (.iconst 1, 1) := by decide +kernel
theorem dX6_clear_86 : decode cX6_clear 86 = .ok (.aload_n 0, 1) := by decide +kernel
theorem dX6_clear_87 : decode cX6_clear 87 = .ok (.getfield 50, 3) := by decide +kernel
theorem dX6_clear_90 : decode cX6_clear 90 = .ok (.invokevirtual 181, 3) := by decide +kernel
theorem dX6_clear_93 : decode cX6_clear 93 = .ok (.iinc 2 1, 3) := by decide +kernel
theorem dX6_clear_96 : decode cX6_clear 96 = .ok (.goto (-42), 3) := by decide +kernel
theorem dX6_clear_99 : decode cX6_clear 99 = .ok (.aload_n 0, 1) := by decide +kernel
theorem dX6_clear_100 : decode cX6_clear 100 = .ok (.iconst 3, 1) := by decide +kernel
theorem dX6_clear_101 : decode cX6_clear 101 = .ok (.invokevirtual 78, 3) := by decide +kernel
theorem dX6_clear_104 : decode cX6_clear 104 = .ok (.ireturn, 1) := by decide +kernel
theorem dX6_reaches_0 : decode cX6_reaches 0 = .ok (.aload_n 0, 1) := by decide +kernel
theorem dX6_reaches_1 : decode cX6_reaches 1 = .ok (.iload_n 1, 1) := by decide +kernel
theorem dX6_reaches_2 : decode cX6_reaches 2 = .ok (.invokevirtual 102, 3) := by decide +kernel
theorem dX6_reaches_5 : decode cX6_reaches 5 = .ok (.ifCond .eq 10, 3) := by decide +kernel
theorem dX6_reaches_8 : decode cX6_reaches 8 = .ok (.iload_n 2, 1) := by decide +kernel
theorem dX6_reaches_9 : decode cX6_reaches 9 = .ok (.invokestatic 91, 3) := by decide +kernel
theorem dX6_reaches_12 : decode cX6_reaches 12 = .ok (.ifCond .ne 9, 3) := by decide +kernel
theorem dX6_reaches_15 : decode cX6_reaches 15 = .ok (.aload_n 0, 1) := by decide +kernel
theorem dX6_reaches_16 : decode cX6_reaches 16 = .ok (.iconst 0, 1) := by decide +kernel
theorem dX6_reaches_17 : decode cX6_reaches 17 = .ok (.invokevirtual 78, 3) := by decide +kernel
theorem dX6_reaches_20 : decode cX6_reaches 20 = .ok (.ireturn, 1) := by decide +kernel
theorem dX6_reaches_21 : decode cX6_reaches 21 = .ok (.aload_n 0, 1) := by decide +kernel
theorem dX6_reaches_22 : decode cX6_reaches 22 = .ok (.bipush 72, 2) := by decide +kernel
theorem dX6_reaches_24 : decode cX6_reaches 24 = .ok (.invokevirtual 172, 3) := by decide +kernel
theorem dX6_reaches_27 : decode cX6_reaches 27 = .ok (.ifCond .ne 9, 3) := by decide +kernel
theorem dX6_reaches_30 : decode cX6_reaches 30 = .ok (.aload_n 0, 1) := by decide +kernel
theorem dX6_reaches_31 : decode cX6_reaches 31 = .ok (.iconst 4, 1) := by decide +kernel
theorem dX6_reaches_32 : decode cX6_reaches 32 = .ok (.invokevirtual 78, 3) := by decide +kernel
theorem dX6_reaches_35 : decode cX6_reaches 35 = .ok (.ireturn, 1) := by decide +kernel
theorem dX6_reaches_36 : decode cX6_reaches 36 = .ok (.aload_n 0, 1) := by decide +kernel
theorem dX6_reaches_37 : decode cX6_reaches 37 = .ok (.getfield 50, 3) := by decide +kernel
theorem dX6_reaches_40 : decode cX6_reaches 40 = .ok (.invokevirtual 175, 3) := by decide +kernel
theorem dX6_reaches_43 : decode cX6_reaches 43 = .ok (.aload_n 0, 1) := by decide +kernel
theorem dX6_reaches_44 : decode cX6_reaches 44 = .ok (.getfield 43, 3) := by decide +kernel
theorem dX6_reaches_47 : decode cX6_reaches 47 = .ok (.aload_n 0, 1) := by decide +kernel
theorem dX6_reaches_48 : decode cX6_reaches 48 = .ok (.getfield 10, 3) := by decide +kernel
theorem dX6_reaches_51 : decode cX6_reaches 51 = .ok (.getfield 105, 3) := by decide +kernel
theorem dX6_reaches_54 : decode cX6_reaches 54 = .ok (.iload_n 1, 1) := by decide +kernel
theorem dX6_reaches_55 : decode cX6_reaches 55 = .ok (.aaload, 1) := by decide +kernel
theorem dX6_reaches_56 : decode cX6_reaches 56 = .ok (.invokevirtual 191, 3) := by decide +kernel
theorem dX6_reaches_59 : decode cX6_reaches 59 = .ok (.iconst 0, 1) := by decide +kernel
theorem dX6_reaches_60 : decode cX6_reaches 60 = .ok (.istore_n 3, 1) := by decide +kernel
theorem dX6_reaches_61 : decode cX6_reaches 61 = .ok (.iload_n 3, 1) := by decide +kernel
theorem dX6_reaches_62 : decode cX6_reaches 62 = .ok (.bipush 72, 2) := by decide +kernel
theorem dX6_reaches_64 : decode cX6_reaches 64 = .ok (.if_icmp .ge 42, 3) := by decide +kernel
theorem dX6_reaches_67 : decode cX6_reaches 67 = .ok (.aload_n 0, 1) := by decide +kernel
theorem dX6_reaches_68 : decode cX6_reaches 68 = .ok (.getfield 10, 3) := by decide +kernel
theorem dX6_reaches_71 : decode cX6_reaches 71 = .ok (.aload_n 0, 1) := by decide +kernel
theorem dX6_reaches_72 : decode cX6_reaches 72 = .ok (.getfield 43, 3) := by decide +kernel
theorem dX6_reaches_75 : decode cX6_reaches 75 = .ok (.iload_n 3, 1) := by decide +kernel
theorem dX6_reaches_76 : decode cX6_reaches 76 = .ok (.iconst 1, 1) := by decide +kernel
theorem dX6_reaches_77 : decode cX6_reaches 77 = .ok (.aload_n 0, 1) := by decide +kernel
theorem dX6_reaches_78 : decode cX6_reaches 78 = .ok (.getfield 50, 3) := by decide +kernel
theorem dX6_reaches_81 : decode cX6_reaches 81 = .ok (.invokevirtual 181, 3) := by decide +kernel
theorem dX6_reaches_84 : decode cX6_reaches 84 = .ok (.aload_n 0, 1) := by decide +kernel
theorem dX6_reaches_85 : decode cX6_reaches 85 = .ok (.getfield 50, 3) := by decide +kernel
theorem dX6_reaches_88 : decode cX6_reaches 88 = .ok (.getfield 198, 3) := by decide +kernel
theorem dX6_reaches_91 : decode cX6_reaches 91 = .ok (.iload_n 2, 1) := by decide +kernel
theorem dX6_reaches_92 : decode cX6_reaches 92 = .ok (.iaload, 1) := by decide +kernel
theorem dX6_reaches_93 : decode cX6_reaches 93 = .ok (.ifCond .le 7, 3) := by decide +kernel
theorem dX6_reaches_96 : decode cX6_reaches 96 = .ok (.iload_n 3, 1) := by decide +kernel
theorem dX6_reaches_97 : decode cX6_reaches 97 = .ok (.iconst 1, 1) := by decide +kernel
theorem dX6_reaches_98 : decode cX6_reaches 98 = .ok (.iadd, 1) := by decide +kernel
theorem dX6_reaches_99 : decode cX6_reaches 99 = .ok (.ireturn, 1) := by decide +kernel
theorem dX6_reaches_100 : decode cX6_reaches 100 = .ok (.iinc 3 1, 3) := by decide +kernel
theorem dX6_reaches_103 : decode cX6_reaches 103 = .ok (.goto (-42), 3) := by decide +kernel
theorem dX6_reaches_106 : decode cX6_reaches 106 = .ok (.aload_n 0, 1) := by decide +kernel
theorem dX6_reaches_107 : decode cX6_reaches 107 = .ok (.iconst 3, 1) := by decide +kernel
theorem dX6_reaches_108 : decode cX6_reaches 108 = .ok (.invokevirtual 78, 3) := by decide +kernel
theorem dX6_reaches_111 : decode cX6_reaches 111 = .ok (.ireturn, 1) := by decide +kernel
theorem dX6_playWith_0 : decode cX6_playWith 0 = .ok (.aload_n 0, 1) := by decide +kernel
theorem dX6_playWith_1 : decode cX6_playWith 1 = .ok (.getfield 50, 3) := by decide +kernel
theorem dX6_playWith_4 : decode cX6_playWith 4 = .ok (.invokevirtual 175, 3) := by decide +kernel
theorem dX6_playWith_7 : decode cX6_playWith 7 = .ok (.aload_n 0, 1) := by decide +kernel
theorem dX6_playWith_8 : decode cX6_playWith 8 = .ok (.getfield 43, 3) := by decide +kernel
theorem dX6_playWith_11 : decode cX6_playWith 11 = .ok (.aload_n 0, 1) := by decide +kernel
theorem dX6_playWith_12 : decode cX6_playWith 12 = .ok (.getfield 10, 3) := by decide +kernel
theorem dX6_playWith_15 : decode cX6_playWith 15 = .ok (.getfield 105, 3) := by decide +kernel
theorem dX6_playWith_18 : decode cX6_playWith 18 = .ok (.iload_n 1, 1) := by decide +kernel
theorem dX6_playWith_19 : decode cX6_playWith 19 = .ok (.aaload, 1) := by decide +kernel
theorem dX6_playWith_20 : decode cX6_playWith 20 = .ok (.invokevirtual 191, 3) := by decide +kernel
theorem dX6_playWith_23 : decode cX6_playWith 23 = .ok (.aload_n 0, 1) := by decide +kernel
theorem dX6_playWith_24 : decode cX6_playWith 24 = .ok (.getfield 43, 3) := by decide +kernel
theorem dX6_playWith_27 : decode cX6_playWith 27 = .ok (.getfield 109, 3) := by decide +kernel
theorem dX6_playWith_30 : decode cX6_playWith 30 = .ok (.iload_n 2, 1) := by decide +kernel
theorem dX6_playWith_31 : decode cX6_playWith 31 = .ok (.iload_n 3, 1) := by decide +kernel
theorem dX6_playWith_32 : decode cX6_playWith 32 = .ok (.iastore, 1) := by decide +kernel
theorem dX6_playWith_33 : decode cX6_playWith 33 = .ok (.aload_n 0, 1) := by decide +kernel
theorem dX6_playWith_34 : decode cX6_playWith 34 = .ok (.getfield 10, 3) := by decide +kernel
theorem dX6_playWith_37 : decode cX6_playWith 37 = .ok (.aload_n 0, 1) := by decide +kernel
theorem dX6_playWith_38 : decode cX6_playWith 38 = .ok (.getfield 43, 3) := by decide +kernel
theorem dX6_playWith_41 : decode cX6_playWith 41 = .ok (.iconst 0, 1) := by decide +kernel
theorem dX6_playWith_42 : decode cX6_playWith 42 = .ok (.iload 4, 2) := by decide +kernel
theorem dX6_playWith_44 : decode cX6_playWith 44 = .ok (.aload_n 0, 1) := by decide +kernel
theorem dX6_playWith_45 : decode cX6_playWith 45 = .ok (.getfield 50, 3) := by decide +kernel
theorem dX6_playWith_48 : decode cX6_playWith 48 = .ok (.invokevirtual 181, 3) := by decide +kernel
theorem dX6_playWith_51 : decode cX6_playWith 51 = .ok (.return_, 1) := by decide +kernel
theorem dX6_richest_0 : decode cX6_richest 0 = .ok (.aload_n 0, 1) := by decide +kernel
theorem dX6_richest_1 : decode cX6_richest 1 = .ok (.iload_n 1, 1) := by decide +kernel
theorem dX6_richest_2 : decode cX6_richest 2 = .ok (.invokevirtual 102, 3) := by decide +kernel
theorem dX6_richest_5 : decode cX6_richest 5 = .ok (.ifCond .eq 13, 3) := by decide +kernel
theorem dX6_richest_8 : decode cX6_richest 8 = .ok (.iload_n 3, 1) := by decide +kernel
theorem dX6_richest_9 : decode cX6_richest 9 = .ok (.iconst 1, 1) := by decide +kernel
theorem dX6_richest_10 : decode cX6_richest 10 = .ok (.bipush 24, 2) := by decide +kernel
theorem dX6_richest_12 : decode cX6_richest 12 = .ok (.invokestatic 74, 3) := by decide +kernel
theorem dX6_richest_15 : decode cX6_richest 15 = .ok (.ifCond .ne 9, 3) := by decide +kernel
theorem dX6_richest_18 : decode cX6_richest 18 = .ok (.aload_n 0, 1) := by decide +kernel
theorem dX6_richest_19 : decode cX6_richest 19 = .ok (.iconst 0, 1) := by decide +kernel
theorem dX6_richest_20 : decode cX6_richest 20 = .ok (.invokevirtual 78, 3) := by decide +kernel
theorem dX6_richest_23 : decode cX6_richest 23 = .ok (.ireturn, 1) := by decide +kernel
theorem dX6_richest_24 : decode cX6_richest 24 = .ok (.aload_n 0, 1) := by decide +kernel
theorem dX6_richest_25 : decode cX6_richest 25 = .ok (.iload_n 3, 1) := by decide +kernel
theorem dX6_richest_26 : decode cX6_richest 26 = .ok (.invokevirtual 172, 3) := by decide +kernel
theorem dX6_richest_29 : decode cX6_richest 29 = .ok (.ifCond .ne 9, 3) := by decide +kernel
theorem dX6_richest_32 : decode cX6_richest 32 = .ok (.aload_n 0, 1) := by decide +kernel
theorem dX6_richest_33 : decode cX6_richest 33 = .ok (.iconst 4, 1) := by decide +kernel
theorem dX6_richest_34 : decode cX6_richest 34 = .ok (.invokevirtual 78, 3) := by decide +kernel
theorem dX6_richest_37 : decode cX6_richest 37 = .ok (.ireturn, 1) := by decide +kernel
theorem dX6_richest_38 : decode cX6_richest 38 = .ok (.aload_n 0, 1) := by decide +kernel
theorem dX6_richest_39 : decode cX6_richest 39 = .ok (.getfield 10, 3) := by decide +kernel
theorem dX6_richest_42 : decode cX6_richest 42 = .ok (.getfield 105, 3) := by decide +kernel
theorem dX6_richest_45 : decode cX6_richest 45 = .ok (.iload_n 1, 1) := by decide +kernel
theorem dX6_richest_46 : decode cX6_richest 46 = .ok (.aaload, 1) := by decide +kernel
theorem dX6_richest_47 : decode cX6_richest 47 = .ok (.getfield 109, 3) := by decide +kernel
theorem dX6_richest_50 : decode cX6_richest 50 = .ok (.iconst 1, 1) := by decide +kernel
theorem dX6_richest_51 : decode cX6_richest 51 = .ok (.iaload, 1) := by decide +kernel
theorem dX6_richest_52 : decode cX6_richest 52 = .ok (.istore 4, 2) := by decide +kernel
theorem dX6_richest_54 : decode cX6_richest 54 = .ok (.iconst 0, 1) := by decide +kernel
theorem dX6_richest_55 : decode cX6_richest 55 = .ok (.istore 5, 2) := by decide +kernel
theorem dX6_richest_57 : decode cX6_richest 57 = .ok (.iconst 0, 1) := by decide +kernel
theorem dX6_richest_58 : decode cX6_richest 58 = .ok (.istore 6, 2) := by decide +kernel
theorem dX6_richest_60 : decode cX6_richest 60 = .ok (.iconst 0, 1) := by decide +kernel
theorem dX6_richest_61 : decode cX6_richest 61 = .ok (.istore 7, 2) := by decide +kernel
theorem dX6_richest_63 : decode cX6_richest 63 = .ok (.iload 7, 2) := by decide +kernel
theorem dX6_richest_65 : decode cX6_richest 65 = .ok (.getstatic 129, 3) := by decide +kernel
theorem dX6_richest_68 : decode cX6_richest 68 = .ok (.iload_n 2, 1) := by decide +kernel
theorem dX6_richest_69 : decode cX6_richest 69 = .ok (.iaload, 1) := by decide +kernel
theorem dX6_richest_70 : decode cX6_richest 70 = .ok (.if_icmp .gt 54, 3) := by decide +kernel
theorem dX6_richest_73 : decode cX6_richest 73 = .ok (.aload_n 0, 1) := by decide +kernel
theorem dX6_richest_74 : decode cX6_richest 74 = .ok (.iload_n 1, 1) := by decide +kernel
theorem dX6_richest_75 : decode cX6_richest 75 = .ok (.iload_n 2, 1) := by decide +kernel
theorem dX6_richest_76 : decode cX6_richest 76 = .ok (.iload 7, 2) := by decide +kernel
theorem dX6_richest_78 : decode cX6_richest 78 = .ok (.iload_n 3, 1) := by decide +kernel
theorem dX6_richest_79 : decode cX6_richest 79 = .ok (.invokevirtual 204, 3) := by decide +kernel
theorem dX6_richest_82 : decode cX6_richest 82 = .ok (.iload 7, 2) := by decide +kernel
theorem dX6_richest_84 : decode cX6_richest 84 = .ok (.ifCond .eq 18, 3) := by decide +kernel
theorem dX6_richest_87 : decode cX6_richest 87 = .ok (.aload_n 0, 1) := by decide +kernel
theorem dX6_richest_88 : decode cX6_richest 88 = .ok (.getfield 50, 3) := by decide +kernel
theorem dX6_richest_91 : decode cX6_richest 91 = .ok (.getfield 185, 3) := by decide +kernel
theorem dX6_richest_94 : decode cX6_richest 94 = .ok (.iload 4, 2) := by decide +kernel
theorem dX6_richest_96 : decode cX6_richest 96 = .ok (.iaload, 1) := by decide +kernel
theorem dX6_richest_97 : decode cX6_richest 97 = .ok (.iload 6, 2) := by decide +kernel
theorem dX6_richest_99 : decode cX6_richest 99 = .ok (.if_icmp .le 19, 3) := by decide +kernel
theorem dX6_richest_102 : decode cX6_richest 102 = .ok (.aload_n 0, 1) := by decide +kernel
theorem dX6_richest_103 : decode cX6_richest 103 = .ok (.getfield 50, 3) := by decide +kernel
theorem dX6_richest_106 : decode cX6_richest 106 = .ok (.getfield 185, 3) := by decide +kernel
theorem dX6_richest_109 : decode cX6_richest 109 = .ok (.iload 4, 2) := by decide +kernel
theorem dX6_richest_111 : decode cX6_richest 111 = .ok (.iaload, 1) := by decide +kernel
theorem dX6_richest_112 : decode cX6_richest 112 = .ok (.istore 6, 2) := by decide +kernel
theorem dX6_richest_114 : decode cX6_richest 114 = .ok (.iload 7, 2) := by decide +kernel
theorem dX6_richest_116 : decode cX6_richest 116 = .ok (.istore 5, 2) := by decide +kernel
theorem dX6_richest_118 : decode cX6_richest 118 = .ok (.iinc 7 1, 3) := by decide +kernel
theorem dX6_richest_121 : decode cX6_richest 121 = .ok (.goto (-58), 3) := by decide +kernel
theorem dX6_richest_124 : decode cX6_richest 124 = .ok (.iload 5, 2) := by decide +kernel
theorem dX6_richest_126 : decode cX6_richest 126 = .ok (.ireturn, 1) := by decide +kernel
theorem dX6_place_0 : decode cX6_place 0 = .ok (.aload_n 0, 1) := by decide +kernel
theorem dX6_place_1 : decode cX6_place 1 = .ok (.iload_n 1, 1) := by decide +kernel
theorem dX6_place_2 : decode cX6_place 2 = .ok (.iconst 2, 1) := by decide +kernel
theorem dX6_place_3 : decode cX6_place 3 = .ok (.iload_n 2, 1) := by decide +kernel
theorem dX6_place_4 : decode cX6_place 4 = .ok (.invokevirtual 201, 3) := by decide +kernel
theorem dX6_place_7 : decode cX6_place 7 = .ok (.ireturn, 1) := by decide +kernel
theorem dX6_highFor_0 : decode cX6_highFor 0 = .ok (.aload_n 0, 1) := by decide +kernel
theorem dX6_highFor_1 : decode cX6_highFor 1 = .ok (.iload_n 1, 1) := by decide +kernel
theorem dX6_highFor_2 : decode cX6_highFor 2 = .ok (.iconst 3, 1) := by decide +kernel
theorem dX6_highFor_3 : decode cX6_highFor 3 = .ok (.iload_n 2, 1) := by decide +kernel
theorem dX6_highFor_4 : decode cX6_highFor 4 = .ok (.invokevirtual 201, 3) := by decide +kernel
theorem dX6_highFor_7 : decode cX6_highFor 7 = .ok (.ireturn, 1) := by decide +kernel
theorem dX6_gains_0 : decode cX6_gains 0 = .ok (.aload_n 0, 1) := by decide +kernel
theorem dX6_gains_1 : decode cX6_gains 1 = .ok (.iload_n 1, 1) := by decide +kernel
theorem dX6_gains_2 : decode cX6_gains 2 = .ok (.invokevirtual 102, 3) := by decide +kernel
theorem dX6_gains_5 : decode cX6_gains 5 = .ok (.ifCond .eq 13, 3) := by decide +kernel
theorem dX6_gains_8 : decode cX6_gains 8 = .ok (.iload_n 2, 1) := by decide +kernel
theorem dX6_gains_9 : decode cX6_gains 9 = .ok (.iconst 1, 1) := by decide +kernel
theorem dX6_gains_10 : decode cX6_gains 10 = .ok (.bipush 24, 2) := by decide +kernel
theorem dX6_gains_12 : decode cX6_gains 12 = .ok (.invokestatic 74, 3) := by decide +kernel
theorem dX6_gains_15 : decode cX6_gains 15 = .ok (.ifCond .ne 9, 3) := by decide +kernel
theorem dX6_gains_18 : decode cX6_gains 18 = .ok (.aload_n 0, 1) := by decide +kernel
theorem dX6_gains_19 : decode cX6_gains 19 = .ok (.iconst 0, 1) := by decide +kernel
theorem dX6_gains_20 : decode cX6_gains 20 = .ok (.invokevirtual 78, 3) := by decide +kernel
theorem dX6_gains_23 : decode cX6_gains 23 = .ok (.ireturn, 1) := by decide +kernel
theorem dX6_gains_24 : decode cX6_gains 24 = .ok (.aload_n 0, 1) := by decide +kernel
theorem dX6_gains_25 : decode cX6_gains 25 = .ok (.getfield 10, 3) := by decide +kernel
theorem dX6_gains_28 : decode cX6_gains 28 = .ok (.getfield 105, 3) := by decide +kernel
theorem dX6_gains_31 : decode cX6_gains 31 = .ok (.iload_n 1, 1) := by decide +kernel
theorem dX6_gains_32 : decode cX6_gains 32 = .ok (.aaload, 1) := by decide +kernel
theorem dX6_gains_33 : decode cX6_gains 33 = .ok (.getfield 109, 3) := by decide +kernel
theorem dX6_gains_36 : decode cX6_gains 36 = .ok (.iconst 3, 1) := by decide +kernel
theorem dX6_gains_37 : decode cX6_gains 37 = .ok (.iaload, 1) := by decide +kernel
theorem dX6_gains_38 : decode cX6_gains 38 = .ok (.istore_n 3, 1) := by decide +kernel
theorem dX6_gains_39 : decode cX6_gains 39 = .ok (.iload_n 3, 1) := by decide +kernel
theorem dX6_gains_40 : decode cX6_gains 40 = .ok (.getstatic 129, 3) := by decide +kernel
theorem dX6_gains_43 : decode cX6_gains 43 = .ok (.iconst 3, 1) := by decide +kernel
theorem dX6_gains_44 : decode cX6_gains 44 = .ok (.iaload, 1) := by decide +kernel
theorem dX6_gains_45 : decode cX6_gains 45 = .ok (.if_icmp .ge 11, 3) := by decide +kernel
theorem dX6_gains_48 : decode cX6_gains 48 = .ok (.aload_n 0, 1) := by decide +kernel
theorem dX6_gains_49 : decode cX6_gains 49 = .ok (.iload_n 2, 1) := by decide +kernel
theorem dX6_gains_50 : decode cX6_gains 50 = .ok (.invokevirtual 172, 3) := by decide +kernel
theorem dX6_gains_53 : decode cX6_gains 53 = .ok (.ifCond .ne 9, 3) := by decide +kernel
theorem dX6_gains_56 : decode cX6_gains 56 = .ok (.aload_n 0, 1) := by decide +kernel
theorem dX6_gains_57 : decode cX6_gains 57 = .ok (.iconst 4, 1) := by decide +kernel
theorem dX6_gains_58 : decode cX6_gains 58 = .ok (.invokevirtual 78, 3) := by decide +kernel
theorem dX6_gains_61 : decode cX6_gains 61 = .ok (.ireturn, 1) := by decide +kernel
theorem dX6_gains_62 : decode cX6_gains 62 = .ok (.aload_n 0, 1) := by decide +kernel
theorem dX6_gains_63 : decode cX6_gains 63 = .ok (.iload_n 1, 1) := by decide +kernel
theorem dX6_gains_64 : decode cX6_gains 64 = .ok (.iconst 3, 1) := by decide +kernel
theorem dX6_gains_65 : decode cX6_gains 65 = .ok (.iload_n 3, 1) := by decide +kernel
theorem dX6_gains_66 : decode cX6_gains 66 = .ok (.iload_n 2, 1) := by decide +kernel
theorem dX6_gains_67 : decode cX6_gains 67 = .ok (.invokevirtual 204, 3) := by decide +kernel
theorem dX6_gains_70 : decode cX6_gains 70 = .ok (.aload_n 0, 1) := by decide +kernel
theorem dX6_gains_71 : decode cX6_gains 71 = .ok (.getfield 50, 3) := by decide +kernel
theorem dX6_gains_74 : decode cX6_gains 74 = .ok (.getfield 185, 3) := by decide +kernel
theorem dX6_gains_77 : decode cX6_gains 77 = .ok (.iconst 0, 1) := by decide +kernel
theorem dX6_gains_78 : decode cX6_gains 78 = .ok (.aload_n 0, 1) := by decide +kernel
theorem dX6_gains_79 : decode cX6_gains 79 = .ok (.getfield 54, 3) := by decide +kernel
theorem dX6_gains_82 : decode cX6_gains 82 = .ok (.iconst 0, 1) := by decide +kernel
theorem dX6_gains_83 : decode cX6_gains 83 = .ok (.bipush 6, 2) := by decide +kernel
theorem dX6_gains_85 : decode cX6_gains 85 = .ok (.invokestatic 208, 3) := by decide +kernel
theorem dX6_gains_88 : decode cX6_gains 88 = .ok (.aload_n 0, 1) := by decide +kernel
theorem dX6_gains_89 : decode cX6_gains 89 = .ok (.iload_n 1, 1) := by decide +kernel
theorem dX6_gains_90 : decode cX6_gains 90 = .ok (.iconst 3, 1) := by decide +kernel
theorem dX6_gains_91 : decode cX6_gains 91 = .ok (.iload_n 3, 1) := by decide +kernel
theorem dX6_gains_92 : decode cX6_gains 92 = .ok (.iconst 1, 1) := by decide +kernel
theorem dX6_gains_93 : decode cX6_gains 93 = .ok (.iadd, 1) := by decide +kernel
theorem dX6_gains_94 : decode cX6_gains 94 = .ok (.iload_n 2, 1) := by decide +kernel
theorem dX6_gains_95 : decode cX6_gains 95 = .ok (.invokevirtual 204, 3) := by decide +kernel
theorem dX6_gains_98 : decode cX6_gains 98 = .ok (.iconst 0, 1) := by decide +kernel
theorem dX6_gains_99 : decode cX6_gains 99 = .ok (.istore 4, 2) := by decide +kernel
theorem dX6_gains_101 : decode cX6_gains 101 = .ok (.iconst 0, 1) := by decide +kernel
theorem dX6_gains_102 : decode cX6_gains 102 = .ok (.istore 5, 2) := by decide +kernel
theorem dX6_gains_104 : decode cX6_gains 104 = .ok (.iload 5, 2) := by decide +kernel
theorem dX6_gains_106 : decode cX6_gains 106 = .ok (.bipush 6, 2) := by decide +kernel
theorem dX6_gains_108 : decode cX6_gains 108 = .ok (.if_icmp .ge 38, 3) := by decide +kernel
theorem dX6_gains_111 : decode cX6_gains 111 = .ok (.aload_n 0, 1) := by decide +kernel
theorem dX6_gains_112 : decode cX6_gains 112 = .ok (.getfield 50, 3) := by decide +kernel
theorem dX6_gains_115 : decode cX6_gains 115 = .ok (.getfield 185, 3) := by decide +kernel
theorem dX6_gains_118 : decode cX6_gains 118 = .ok (.iload 5, 2) := by decide +kernel
theorem dX6_gains_120 : decode cX6_gains 120 = .ok (.iaload, 1) := by decide +kernel
theorem dX6_gains_121 : decode cX6_gains 121 = .ok (.aload_n 0, 1) := by decide +kernel
theorem dX6_gains_122 : decode cX6_gains 122 = .ok (.getfield 54, 3) := by decide +kernel
theorem dX6_gains_125 : decode cX6_gains 125 = .ok (.iload 5, 2) := by decide +kernel
theorem dX6_gains_127 : decode cX6_gains 127 = .ok (.iaload, 1) := by decide +kernel
theorem dX6_gains_128 : decode cX6_gains 128 = .ok (.if_icmp .le 12, 3) := by decide +kernel
theorem dX6_gains_131 : decode cX6_gains 131 = .ok (.iload 4, 2) := by decide +kernel
theorem dX6_gains_133 : decode cX6_gains 133 = .ok (.iconst 1, 1) := by decide +kernel
theorem dX6_gains_134 : decode cX6_gains 134 = .ok (.iload 5, 2) := by decide +kernel
theorem dX6_gains_136 : decode cX6_gains 136 = .ok (.ishl, 1) := by decide +kernel
theorem dX6_gains_137 : decode cX6_gains 137 = .ok (.ior, 1) := by decide +kernel
theorem dX6_gains_138 : decode cX6_gains 138 = .ok (.istore 4, 2) := by decide +kernel
theorem dX6_gains_140 : decode cX6_gains 140 = .ok (.iinc 5 1, 3) := by decide +kernel
theorem dX6_gains_143 : decode cX6_gains 143 = .ok (.goto (-39), 3) := by decide +kernel
theorem dX6_gains_146 : decode cX6_gains 146 = .ok (.iload 4, 2) := by decide +kernel
theorem dX6_gains_148 : decode cX6_gains 148 = .ok (.ireturn, 1) := by decide +kernel
theorem dX6_when_0 : decode cX6_when 0 = .ok (.aload_n 0, 1) := by decide +kernel
theorem dX6_when_1 : decode cX6_when 1 = .ok (.iload_n 1, 1) := by decide +kernel
theorem dX6_when_2 : decode cX6_when 2 = .ok (.invokevirtual 102, 3) := by decide +kernel
theorem dX6_when_5 : decode cX6_when 5 = .ok (.ifCond .eq 20, 3) := by decide +kernel
theorem dX6_when_8 : decode cX6_when 8 = .ok (.iload_n 2, 1) := by decide +kernel
theorem dX6_when_9 : decode cX6_when 9 = .ok (.invokestatic 91, 3) := by decide +kernel
theorem dX6_when_12 : decode cX6_when 12 = .ok (.ifCond .eq 13, 3) := by decide +kernel
theorem dX6_when_15 : decode cX6_when 15 = .ok (.iload_n 3, 1) := by decide +kernel
theorem dX6_when_16 : decode cX6_when 16 = .ok (.iconst 1, 1) := by decide +kernel
theorem dX6_when_17 : decode cX6_when 17 = .ok (.bipush 24, 2) := by decide +kernel
theorem dX6_when_19 : decode cX6_when 19 = .ok (.invokestatic 74, 3) := by decide +kernel
theorem dX6_when_22 : decode cX6_when 22 = .ok (.ifCond .ne 9, 3) := by decide +kernel
theorem dX6_when_25 : decode cX6_when 25 = .ok (.aload_n 0, 1) := by decide +kernel
theorem dX6_when_26 : decode cX6_when 26 = .ok (.iconst 0, 1) := by decide +kernel
theorem dX6_when_27 : decode cX6_when 27 = .ok (.invokevirtual 78, 3) := by decide +kernel
theorem dX6_when_30 : decode cX6_when 30 = .ok (.ireturn, 1) := by decide +kernel
theorem dX6_when_31 : decode cX6_when 31 = .ok (.aload_n 0, 1) := by decide +kernel
theorem dX6_when_32 : decode cX6_when 32 = .ok (.iload_n 3, 1) := by decide +kernel
theorem dX6_when_33 : decode cX6_when 33 = .ok (.invokevirtual 172, 3) := by decide +kernel
theorem dX6_when_36 : decode cX6_when 36 = .ok (.ifCond .ne 9, 3) := by decide +kernel
theorem dX6_when_39 : decode cX6_when 39 = .ok (.aload_n 0, 1) := by decide +kernel
theorem dX6_when_40 : decode cX6_when 40 = .ok (.iconst 4, 1) := by decide +kernel
theorem dX6_when_41 : decode cX6_when 41 = .ok (.invokevirtual 78, 3) := by decide +kernel
theorem dX6_when_44 : decode cX6_when 44 = .ok (.ireturn, 1) := by decide +kernel
theorem dX6_when_45 : decode cX6_when 45 = .ok (.iconst 0, 1) := by decide +kernel
theorem dX6_when_46 : decode cX6_when 46 = .ok (.istore 4, 2) := by decide +kernel
theorem dX6_when_48 : decode cX6_when 48 = .ok (.iconst 0, 1) := by decide +kernel
theorem dX6_when_49 : decode cX6_when 49 = .ok (.istore 5, 2) := by decide +kernel
theorem dX6_when_51 : decode cX6_when 51 = .ok (.iconst 0, 1) := by decide +kernel
theorem dX6_when_52 : decode cX6_when 52 = .ok (.istore 6, 2) := by decide +kernel
theorem dX6_when_54 : decode cX6_when 54 = .ok (.iload 6, 2) := by decide +kernel
theorem dX6_when_56 : decode cX6_when 56 = .ok (.bipush 24, 2) := by decide +kernel
theorem dX6_when_58 : decode cX6_when 58 = .ok (.if_icmp .ge 52, 3) := by decide +kernel
theorem dX6_when_61 : decode cX6_when 61 = .ok (.aload_n 0, 1) := by decide +kernel
theorem dX6_when_62 : decode cX6_when 62 = .ok (.iload_n 1, 1) := by decide +kernel
theorem dX6_when_63 : decode cX6_when 63 = .ok (.iconst 5, 1) := by decide +kernel
theorem dX6_when_64 : decode cX6_when 64 = .ok (.iload 6, 2) := by decide +kernel
theorem dX6_when_66 : decode cX6_when 66 = .ok (.iload_n 3, 1) := by decide +kernel
theorem dX6_when_67 : decode cX6_when 67 = .ok (.invokevirtual 204, 3) := by decide +kernel
theorem dX6_when_70 : decode cX6_when 70 = .ok (.iload 6, 2) := by decide +kernel
theorem dX6_when_72 : decode cX6_when 72 = .ok (.ifCond .eq 17, 3) := by decide +kernel
theorem dX6_when_75 : decode cX6_when 75 = .ok (.aload_n 0, 1) := by decide +kernel
theorem dX6_when_76 : decode cX6_when 76 = .ok (.getfield 50, 3) := by decide +kernel
theorem dX6_when_79 : decode cX6_when 79 = .ok (.getfield 195, 3) := by decide +kernel
theorem dX6_when_82 : decode cX6_when 82 = .ok (.iload_n 2, 1) := by decide +kernel
theorem dX6_when_83 : decode cX6_when 83 = .ok (.iaload, 1) := by decide +kernel
theorem dX6_when_84 : decode cX6_when 84 = .ok (.iload 5, 2) := by decide +kernel
theorem dX6_when_86 : decode cX6_when 86 = .ok (.if_icmp .ge 18, 3) := by decide +kernel
theorem dX6_when_89 : decode cX6_when 89 = .ok (.aload_n 0, 1) := by decide +kernel
theorem dX6_when_90 : decode cX6_when 90 = .ok (.getfield 50, 3) := by decide +kernel
theorem dX6_when_93 : decode cX6_when 93 = .ok (.getfield 195, 3) := by decide +kernel
theorem dX6_when_96 : decode cX6_when 96 = .ok (.iload_n 2, 1) := by decide +kernel
theorem dX6_when_97 : decode cX6_when 97 = .ok (.iaload, 1) := by decide +kernel
theorem dX6_when_98 : decode cX6_when 98 = .ok (.istore 5, 2) := by decide +kernel
theorem dX6_when_100 : decode cX6_when 100 = .ok (.iload 6, 2) := by decide +kernel
theorem dX6_when_102 : decode cX6_when 102 = .ok (.istore 4, 2) := by decide +kernel
theorem dX6_when_104 : decode cX6_when 104 = .ok (.iinc 6 1, 3) := by decide +kernel
theorem dX6_when_107 : decode cX6_when 107 = .ok (.goto (-53), 3) := by decide +kernel
theorem dX6_when_110 : decode cX6_when 110 = .ok (.iload 4, 2) := by decide +kernel
theorem dX6_when_112 : decode cX6_when 112 = .ok (.ireturn, 1) := by decide +kernel
theorem dX6_addCosts_0 : decode cX6_addCosts 0 = .ok (.aload_n 1, 1) := by decide +kernel
theorem dX6_addCosts_1 : decode cX6_addCosts 1 = .ok (.invokevirtual 112, 3) := by decide +kernel
theorem dX6_addCosts_4 : decode cX6_addCosts 4 = .ok (.istore_n 2, 1) := by decide +kernel
theorem dX6_addCosts_5 : decode cX6_addCosts 5 = .ok (.iconst 0, 1) := by decide +kernel
theorem dX6_addCosts_6 : decode cX6_addCosts 6 = .ok (.istore_n 3, 1) := by decide +kernel
theorem dX6_addCosts_7 : decode cX6_addCosts 7 = .ok (.iload_n 3, 1) := by decide +kernel
theorem dX6_addCosts_8 : decode cX6_addCosts 8 = .ok (.bipush 36, 2) := by decide +kernel
theorem dX6_addCosts_10 : decode cX6_addCosts 10 = .ok (.if_icmp .ge 36, 3) := by decide +kernel
theorem dX6_addCosts_13 : decode cX6_addCosts 13 = .ok (.aload_n 0, 1) := by decide +kernel
theorem dX6_addCosts_14 : decode cX6_addCosts 14 = .ok (.getfield 66, 3) := by decide +kernel
theorem dX6_addCosts_17 : decode cX6_addCosts 17 = .ok (.iload_n 3, 1) := by decide +kernel
theorem dX6_addCosts_18 : decode cX6_addCosts 18 = .ok (.dup2, 1) := by decide +kernel
theorem dX6_addCosts_19 : decode cX6_addCosts 19 = .ok (.iaload, 1) := by decide +kernel
theorem dX6_addCosts_20 : decode cX6_addCosts 20 = .ok (.aload_n 0, 1) := by decide +kernel
theorem dX6_addCosts_21 : decode cX6_addCosts 21 = .ok (.getfield 43, 3) := by decide +kernel
theorem dX6_addCosts_24 : decode cX6_addCosts 24 = .ok (.getfield 157, 3) := by decide +kernel
theorem dX6_addCosts_27 : decode cX6_addCosts 27 = .ok (.iload_n 3, 1) := by decide +kernel
theorem dX6_addCosts_28 : decode cX6_addCosts 28 = .ok (.iaload, 1) := by decide +kernel
theorem dX6_addCosts_29 : decode cX6_addCosts 29 = .ok (.aload_n 1, 1) := by decide +kernel
theorem dX6_addCosts_30 : decode cX6_addCosts 30 = .ok (.getfield 157, 3) := by decide +kernel
theorem dX6_addCosts_33 : decode cX6_addCosts 33 = .ok (.iload_n 3, 1) := by decide +kernel
theorem dX6_addCosts_34 : decode cX6_addCosts 34 = .ok (.iaload, 1) := by decide +kernel
theorem dX6_addCosts_35 : decode cX6_addCosts 35 = .ok (.isub, 1) := by decide +kernel
theorem dX6_addCosts_36 : decode cX6_addCosts 36 = .ok (.iload_n 2, 1) := by decide +kernel
theorem dX6_addCosts_37 : decode cX6_addCosts 37 = .ok (.imul, 1) := by decide +kernel
theorem dX6_addCosts_38 : decode cX6_addCosts 38 = .ok (.iadd, 1) := by decide +kernel
theorem dX6_addCosts_39 : decode cX6_addCosts 39 = .ok (.iastore, 1) := by decide +kernel
theorem dX6_addCosts_40 : decode cX6_addCosts 40 = .ok (.iinc 3 1, 3) := by decide +kernel
theorem dX6_addCosts_43 : decode cX6_addCosts 43 = .ok (.goto (-36), 3) := by decide +kernel
theorem dX6_addCosts_46 : decode cX6_addCosts 46 = .ok (.return_, 1) := by decide +kernel
theorem dX6_playCosts_0 : decode cX6_playCosts 0 = .ok (.aload_n 0, 1) := by decide +kernel
theorem dX6_playCosts_1 : decode cX6_playCosts 1 = .ok (.getfield 66, 3) := by decide +kernel
theorem dX6_playCosts_4 : decode cX6_playCosts 4 = .ok (.iconst 0, 1) := by decide +kernel
theorem dX6_playCosts_5 : decode cX6_playCosts 5 = .ok (.invokestatic 316, 3) := by decide +kernel
theorem dX6_playCosts_8 : decode cX6_playCosts 8 = .ok (.aload_n 0, 1) := by decide +kernel
theorem dX6_playCosts_9 : decode cX6_playCosts 9 = .ok (.getfield 50, 3) := by decide +kernel
theorem dX6_playCosts_12 : decode cX6_playCosts 12 = .ok (.invokevirtual 175, 3) := by decide +kernel
theorem dX6_playCosts_15 : decode cX6_playCosts 15 = .ok (.iconst 0, 1) := by decide +kernel
theorem dX6_playCosts_16 : decode cX6_playCosts 16 = .ok (.istore_n 3, 1) := by decide +kernel
theorem dX6_playCosts_17 : decode cX6_playCosts 17 = .ok (.iload_n 3, 1) := by decide +kernel
theorem dX6_playCosts_18 : decode cX6_playCosts 18 = .ok (.aload_n 0, 1) := by decide +kernel
theorem dX6_playCosts_19 : decode cX6_playCosts 19 = .ok (.getfield 10, 3) := by decide +kernel
theorem dX6_playCosts_22 : decode cX6_playCosts 22 = .ok (.getfield 178, 3) := by decide +kernel
theorem dX6_playCosts_25 : decode cX6_playCosts 25 = .ok (.if_icmp .ge 63, 3) := by decide +kernel
theorem dX6_playCosts_28 : decode cX6_playCosts 28 = .ok (.aload_n 0, 1) := by decide +kernel
theorem dX6_playCosts_29 : decode cX6_playCosts 29 = .ok (.getfield 10, 3) := by decide +kernel
theorem dX6_playCosts_32 : decode cX6_playCosts 32 = .ok (.getfield 105, 3) := by decide +kernel
theorem dX6_playCosts_35 : decode cX6_playCosts 35 = .ok (.iload_n 3, 1) := by decide +kernel
theorem dX6_playCosts_36 : decode cX6_playCosts 36 = .ok (.aaload, 1) := by decide +kernel
theorem dX6_playCosts_37 : decode cX6_playCosts 37 = .ok (.astore 4, 2) := by decide +kernel
theorem dX6_playCosts_39 : decode cX6_playCosts 39 = .ok (.aload 4, 2) := by decide +kernel
theorem dX6_playCosts_41 : decode cX6_playCosts 41 = .ok (.getfield 109, 3) := by decide +kernel
theorem dX6_playCosts_44 : decode cX6_playCosts 44 = .ok (.iconst 1, 1) := by decide +kernel
theorem dX6_playCosts_45 : decode cX6_playCosts 45 = .ok (.iaload, 1) := by decide +kernel
theorem dX6_playCosts_46 : decode cX6_playCosts 46 = .ok (.iload_n 1, 1) := by decide +kernel
theorem dX6_playCosts_47 : decode cX6_playCosts 47 = .ok (.if_icmp .eq 35, 3) := by decide +kernel
theorem dX6_playCosts_50 : decode cX6_playCosts 50 = .ok (.aload_n 0, 1) := by decide +kernel
theorem dX6_playCosts_51 : decode cX6_playCosts 51 = .ok (.getfield 43, 3) := by decide +kernel
theorem dX6_playCosts_54 : decode cX6_playCosts 54 = .ok (.aload 4, 2) := by decide +kernel
theorem dX6_playCosts_56 : decode cX6_playCosts 56 = .ok (.invokevirtual 191, 3) := by decide +kernel
theorem dX6_playCosts_59 : decode cX6_playCosts 59 = .ok (.aload_n 0, 1) := by decide +kernel
theorem dX6_playCosts_60 : decode cX6_playCosts 60 = .ok (.getfield 10, 3) := by decide +kernel
theorem dX6_playCosts_63 : decode cX6_playCosts 63 = .ok (.aload_n 0, 1) := by decide +kernel
theorem dX6_playCosts_64 : decode cX6_playCosts 64 = .ok (.getfield 43, 3) := by decide +kernel
theorem dX6_playCosts_67 : decode cX6_playCosts 67 = .ok (.iconst 0, 1) := by decide +kernel
theorem dX6_playCosts_68 : decode cX6_playCosts 68 = .ok (.iload_n 2, 1) := by decide +kernel
theorem dX6_playCosts_69 : decode cX6_playCosts 69 = .ok (.aload_n 0, 1) := by decide +kernel
theorem dX6_playCosts_70 : decode cX6_playCosts 70 = .ok (.getfield 50, 3) := by decide +kernel
theorem dX6_playCosts_73 : decode cX6_playCosts 73 = .ok (.invokevirtual 181, 3) := by decide +kernel
theorem dX6_playCosts_76 : decode cX6_playCosts 76 = .ok (.aload_n 0, 1) := by decide +kernel
theorem dX6_playCosts_77 : decode cX6_playCosts 77 = .ok (.aload 4, 2) := by decide +kernel
theorem dX6_playCosts_79 : decode cX6_playCosts 79 = .ok (.invokevirtual 322, 3) := by decide +kernel
theorem dX6_playCosts_82 : decode cX6_playCosts 82 = .ok (.iinc 3 1, 3) := by decide +kernel
theorem dX6_playCosts_85 : decode cX6_playCosts 85 = .ok (.goto (-68), 3) := by decide +kernel
theorem dX6_playCosts_88 : decode cX6_playCosts 88 = .ok (.return_, 1) := by decide +kernel
theorem dX6_build_0 : decode cX6_build 0 = .ok (.iload_n 1, 1) := by decide +kernel
theorem dX6_build_1 : decode cX6_build 1 = .ok (.invokestatic 91, 3) := by decide +kernel
theorem dX6_build_4 : decode cX6_build 4 = .ok (.ifCond .eq 13, 3) := by decide +kernel
theorem dX6_build_7 : decode cX6_build 7 = .ok (.iload_n 2, 1) := by decide +kernel
theorem dX6_build_8 : decode cX6_build 8 = .ok (.iconst 1, 1) := by decide +kernel
theorem dX6_build_9 : decode cX6_build 9 = .ok (.bipush 24, 2) := by decide +kernel
theorem dX6_build_11 : decode cX6_build 11 = .ok (.invokestatic 74, 3) := by decide +kernel
theorem dX6_build_14 : decode cX6_build 14 = .ok (.ifCond .ne 9, 3) := by decide +kernel
theorem dX6_build_17 : decode cX6_build 17 = .ok (.aload_n 0, 1) := by decide +kernel
theorem dX6_build_18 : decode cX6_build 18 = .ok (.iconst 0, 1) := by decide +kernel
theorem dX6_build_19 : decode cX6_build 19 = .ok (.invokevirtual 78, 3) := by decide +kernel
theorem dX6_build_22 : decode cX6_build 22 = .ok (.ireturn, 1) := by decide +kernel
theorem dX6_build_23 : decode cX6_build 23 = .ok (.aload_n 0, 1) := by decide +kernel
theorem dX6_build_24 : decode cX6_build 24 = .ok (.iload_n 2, 1) := by decide +kernel
theorem dX6_build_25 : decode cX6_build 25 = .ok (.invokevirtual 172, 3) := by decide +kernel
theorem dX6_build_28 : decode cX6_build 28 = .ok (.ifCond .ne 9, 3) := by decide +kernel
theorem dX6_build_31 : decode cX6_build 31 = .ok (.aload_n 0, 1) := by decide +kernel
theorem dX6_build_32 : decode cX6_build 32 = .ok (.iconst 4, 1) := by decide +kernel
theorem dX6_build_33 : decode cX6_build 33 = .ok (.invokevirtual 78, 3) := by decide +kernel
theorem dX6_build_36 : decode cX6_build 36 = .ok (.ireturn, 1) := by decide +kernel
theorem dX6_build_37 : decode cX6_build 37 = .ok (.aload_n 0, 1) := by decide +kernel
theorem dX6_build_38 : decode cX6_build 38 = .ok (.iload_n 1, 1) := by decide +kernel
theorem dX6_build_39 : decode cX6_build 39 = .ok (.iload_n 2, 1) := by decide +kernel
theorem dX6_build_40 : decode cX6_build 40 = .ok (.invokevirtual 214, 3) := by decide +kernel
theorem dX6_build_43 : decode cX6_build 43 = .ok (.iconst (-1), 1) := by decide +kernel
theorem dX6_build_44 : decode cX6_build 44 = .ok (.istore_n 3, 1) := by decide +kernel
theorem dX6_build_45 : decode cX6_build 45 = .ok (.iconst 0, 1) := by decide +kernel
theorem dX6_build_46 : decode cX6_build 46 = .ok (.istore 4, 2) := by decide +kernel
theorem dX6_build_48 : decode cX6_build 48 = .ok (.iload 4, 2) := by decide +kernel
theorem dX6_build_50 : decode cX6_build 50 = .ok (.bipush 36, 2) := by decide +kernel
theorem dX6_build_52 : decode cX6_build 52 = .ok (.if_icmp .ge 58, 3) := by decide +kernel
theorem dX6_build_55 : decode cX6_build 55 = .ok (.aload_n 0, 1) := by decide +kernel
theorem dX6_build_56 : decode cX6_build 56 = .ok (.getfield 10, 3) := by decide +kernel
theorem dX6_build_59 : decode cX6_build 59 = .ok (.getfield 82, 3) := by decide +kernel
theorem dX6_build_62 : decode cX6_build 62 = .ok (.iload 4, 2) := by decide +kernel
theorem dX6_build_64 : decode cX6_build 64 = .ok (.iaload, 1) := by decide +kernel
theorem dX6_build_65 : decode cX6_build 65 = .ok (.ifCond .ge 7, 3) := by decide +kernel
theorem dX6_build_68 : decode cX6_build 68 = .ok (.iconst 1, 1) := by decide +kernel
theorem dX6_build_69 : decode cX6_build 69 = .ok (.goto 4, 3) := by decide +kernel
theorem dX6_build_72 : decode cX6_build 72 = .ok (.iconst 0, 1) := by decide +kernel
theorem dX6_build_73 : decode cX6_build 73 = .ok (.istore 5, 2) := by decide +kernel
theorem dX6_build_75 : decode cX6_build 75 = .ok (.iload 5, 2) := by decide +kernel
theorem dX6_build_77 : decode cX6_build 77 = .ok (.ifCond .eq 27, 3) := by decide +kernel
theorem dX6_build_80 : decode cX6_build 80 = .ok (.iload_n 3, 1) := by decide +kernel
theorem dX6_build_81 : decode cX6_build 81 = .ok (.iconst (-1), 1) := by decide +kernel
theorem dX6_build_82 : decode cX6_build 82 = .ok (.if_icmp .eq 19, 3) := by decide +kernel
theorem dX6_build_85 : decode cX6_build 85 = .ok (.aload_n 0, 1) := by decide +kernel
theorem dX6_build_86 : decode cX6_build 86 = .ok (.getfield 66, 3) := by decide +kernel
theorem dX6_build_89 : decode cX6_build 89 = .ok (.iload 4, 2) := by decide +kernel
theorem dX6_build_91 : decode cX6_build 91 = .ok (.iaload, 1) := by decide +kernel
theorem dX6_build_92 : decode cX6_build 92 = .ok (.aload_n 0, 1) := by decide +kernel
theorem dX6_build_93 : decode cX6_build 93 = .ok (.getfield 66, 3) := by decide +kernel
theorem dX6_build_96 : decode cX6_build 96 = .ok (.iload_n 3, 1) := by decide +kernel
theorem dX6_build_97 : decode cX6_build 97 = .ok (.iaload, 1) := by decide +kernel
theorem dX6_build_98 : decode cX6_build 98 = .ok (.if_icmp .ge 6, 3) := by decide +kernel
theorem dX6_build_101 : decode cX6_build 101 = .ok (.iload 4, 2) := by decide +kernel
theorem dX6_build_103 : decode cX6_build 103 = .ok (.istore_n 3, 1) := by decide +kernel
theorem dX6_build_104 : decode cX6_build 104 = .ok (.iinc 4 1, 3) := by decide +kernel
theorem dX6_build_107 : decode cX6_build 107 = .ok (.goto (-59), 3) := by decide +kernel
theorem dX6_build_110 : decode cX6_build 110 = .ok (.iload_n 3, 1) := by decide +kernel
theorem dX6_build_111 : decode cX6_build 111 = .ok (.iconst (-1), 1) := by decide +kernel
theorem dX6_build_112 : decode cX6_build 112 = .ok (.if_icmp .ne 11, 3) := by decide +kernel
theorem dX6_build_115 : decode cX6_build 115 = .ok (.aload_n 0, 1) := by decide +kernel
theorem dX6_build_116 : decode cX6_build 116 = .ok (.iconst 3, 1) := by decide +kernel
theorem dX6_build_117 : decode cX6_build 117 = .ok (.invokevirtual 78, 3) := by decide +kernel
theorem dX6_build_120 : decode cX6_build 120 = .ok (.goto 4, 3) := by decide +kernel
theorem dX6_build_123 : decode cX6_build 123 = .ok (.iload_n 3, 1) := by decide +kernel
theorem dX6_build_124 : decode cX6_build 124 = .ok (.ireturn, 1) := by decide +kernel
theorem dX6_dirtWith_0 : decode cX6_dirtWith 0 = .ok (.iconst 0, 1) := by decide +kernel
theorem dX6_dirtWith_1 : decode cX6_dirtWith 1 = .ok (.istore_n 2, 1) := by decide +kernel
theorem dX6_dirtWith_2 : decode cX6_dirtWith 2 = .ok (.iconst 0, 1) := by decide +kernel
theorem dX6_dirtWith_3 : decode cX6_dirtWith 3 = .ok (.istore_n 3, 1) := by decide +kernel
theorem dX6_dirtWith_4 : decode cX6_dirtWith 4 = .ok (.iload_n 3, 1) := by decide +kernel
theorem dX6_dirtWith_5 : decode cX6_dirtWith 5 = .ok (.aload_n 0, 1) := by decide +kernel
theorem dX6_dirtWith_6 : decode cX6_dirtWith 6 = .ok (.getfield 10, 3) := by decide +kernel
theorem dX6_dirtWith_9 : decode cX6_dirtWith 9 = .ok (.getfield 178, 3) := by decide +kernel
theorem dX6_dirtWith_12 : decode cX6_dirtWith 12 = .ok (.if_icmp .ge 36, 3) := by decide +kernel
theorem dX6_dirtWith_15 : decode cX6_dirtWith 15 = .ok (.iload_n 2, 1) := by decide +kernel
theorem dX6_dirtWith_16 : decode cX6_dirtWith 16 = .ok (.iload_n 1, 1) := by decide +kernel
theorem dX6_dirtWith_17 : decode cX6_dirtWith 17 = .ok (.iload_n 3, 1) := by decide +kernel
theorem dX6_dirtWith_18 : decode cX6_dirtWith 18 = .ok (.ishr, 1) := by decide +kernel
theorem dX6_dirtWith_19 : decode cX6_dirtWith 19 = .ok (.iconst 1, 1) := by decide +kernel
theorem dX6_dirtWith_20 : decode cX6_dirtWith 20 = .ok (.iand, 1) := by decide +kernel
theorem dX6_dirtWith_21 : decode cX6_dirtWith 21 = .ok (.iconst 1, 1) := by decide +kernel
theorem dX6_dirtWith_22 : decode cX6_dirtWith 22 = .ok (.if_icmp .ne 12, 3) := by decide +kernel
theorem dX6_dirtWith_25 : decode cX6_dirtWith 25 = .ok (.aload_n 0, 1) := by decide +kernel
theorem dX6_dirtWith_26 : decode cX6_dirtWith 26 = .ok (.getfield 57, 3) := by decide +kernel
theorem dX6_dirtWith_29 : decode cX6_dirtWith 29 = .ok (.iload_n 3, 1) := by decide +kernel
theorem dX6_dirtWith_30 : decode cX6_dirtWith 30 = .ok (.iaload, 1) := by decide +kernel
theorem dX6_dirtWith_31 : decode cX6_dirtWith 31 = .ok (.goto 9, 3) := by decide +kernel
theorem dX6_dirtWith_34 : decode cX6_dirtWith 34 = .ok (.aload_n 0, 1) := by decide +kernel
theorem dX6_dirtWith_35 : decode cX6_dirtWith 35 = .ok (.getfield 60, 3) := by decide +kernel
theorem dX6_dirtWith_38 : decode cX6_dirtWith 38 = .ok (.iload_n 3, 1) := by decide +kernel
theorem dX6_dirtWith_39 : decode cX6_dirtWith 39 = .ok (.iaload, 1) := by decide +kernel
theorem dX6_dirtWith_40 : decode cX6_dirtWith 40 = .ok (.iadd, 1) := by decide +kernel
theorem dX6_dirtWith_41 : decode cX6_dirtWith 41 = .ok (.istore_n 2, 1) := by decide +kernel
theorem dX6_dirtWith_42 : decode cX6_dirtWith 42 = .ok (.iinc 3 1, 3) := by decide +kernel
theorem dX6_dirtWith_45 : decode cX6_dirtWith 45 = .ok (.goto (-41), 3) := by decide +kernel
theorem dX6_dirtWith_48 : decode cX6_dirtWith 48 = .ok (.iload_n 2, 1) := by decide +kernel
theorem dX6_dirtWith_49 : decode cX6_dirtWith 49 = .ok (.ireturn, 1) := by decide +kernel
theorem dX6_fireOf_0 : decode cX6_fireOf 0 = .ok (.iconst 0, 1) := by decide +kernel
theorem dX6_fireOf_1 : decode cX6_fireOf 1 = .ok (.istore_n 2, 1) := by decide +kernel
theorem dX6_fireOf_2 : decode cX6_fireOf 2 = .ok (.iconst 0, 1) := by decide +kernel
theorem dX6_fireOf_3 : decode cX6_fireOf 3 = .ok (.istore_n 3, 1) := by decide +kernel
theorem dX6_fireOf_4 : decode cX6_fireOf 4 = .ok (.iload_n 3, 1) := by decide +kernel
theorem dX6_fireOf_5 : decode cX6_fireOf 5 = .ok (.aload_n 0, 1) := by decide +kernel
theorem dX6_fireOf_6 : decode cX6_fireOf 6 = .ok (.getfield 10, 3) := by decide +kernel
theorem dX6_fireOf_9 : decode cX6_fireOf 9 = .ok (.getfield 178, 3) := by decide +kernel
theorem dX6_fireOf_12 : decode cX6_fireOf 12 = .ok (.if_icmp .ge 32, 3) := by decide +kernel
theorem dX6_fireOf_15 : decode cX6_fireOf 15 = .ok (.iload_n 2, 1) := by decide +kernel
theorem dX6_fireOf_16 : decode cX6_fireOf 16 = .ok (.iload_n 1, 1) := by decide +kernel
theorem dX6_fireOf_17 : decode cX6_fireOf 17 = .ok (.iload_n 3, 1) := by decide +kernel
theorem dX6_fireOf_18 : decode cX6_fireOf 18 = .ok (.ishr, 1) := by decide +kernel
theorem dX6_fireOf_19 : decode cX6_fireOf 19 = .ok (.iconst 1, 1) := by decide +kernel
theorem dX6_fireOf_20 : decode cX6_fireOf 20 = .ok (.iand, 1) := by decide +kernel
theorem dX6_fireOf_21 : decode cX6_fireOf 21 = .ok (.aload_n 0, 1) := by decide +kernel
theorem dX6_fireOf_22 : decode cX6_fireOf 22 = .ok (.getfield 10, 3) := by decide +kernel
theorem dX6_fireOf_25 : decode cX6_fireOf 25 = .ok (.getfield 105, 3) := by decide +kernel
theorem dX6_fireOf_28 : decode cX6_fireOf 28 = .ok (.iload_n 3, 1) := by decide +kernel
theorem dX6_fireOf_29 : decode cX6_fireOf 29 = .ok (.aaload, 1) := by decide +kernel
theorem dX6_fireOf_30 : decode cX6_fireOf 30 = .ok (.getfield 109, 3) := by decide +kernel
theorem dX6_fireOf_33 : decode cX6_fireOf 33 = .ok (.iconst 4, 1) := by decide +kernel
theorem dX6_fireOf_34 : decode cX6_fireOf 34 = .ok (.iaload, 1) := by decide +kernel
theorem dX6_fireOf_35 : decode cX6_fireOf 35 = .ok (.imul, 1) := by decide +kernel
theorem dX6_fireOf_36 : decode cX6_fireOf 36 = .ok (.iadd, 1) := by decide +kernel
theorem dX6_fireOf_37 : decode cX6_fireOf 37 = .ok (.istore_n 2, 1) := by decide +kernel
theorem dX6_fireOf_38 : decode cX6_fireOf 38 = .ok (.iinc 3 1, 3) := by decide +kernel
theorem dX6_fireOf_41 : decode cX6_fireOf 41 = .ok (.goto (-37), 3) := by decide +kernel
theorem dX6_fireOf_44 : decode cX6_fireOf 44 = .ok (.iload_n 2, 1) := by decide +kernel
theorem dX6_fireOf_45 : decode cX6_fireOf 45 = .ok (.ireturn, 1) := by decide +kernel
theorem dX6_playDirt_0 : decode cX6_playDirt 0 = .ok (.iconst 0, 1) := by decide +kernel
theorem dX6_playDirt_1 : decode cX6_playDirt 1 = .ok (.istore_n 3, 1) := by decide +kernel
theorem dX6_playDirt_2 : decode cX6_playDirt 2 = .ok (.iload_n 3, 1) := by decide +kernel
theorem dX6_playDirt_3 : decode cX6_playDirt 3 = .ok (.aload_n 0, 1) := by decide +kernel
theorem dX6_playDirt_4 : decode cX6_playDirt 4 = .ok (.getfield 10, 3) := by decide +kernel
theorem dX6_playDirt_7 : decode cX6_playDirt 7 = .ok (.getfield 178, 3) := by decide +kernel
theorem dX6_playDirt_10 : decode cX6_playDirt 10 = .ok (.if_icmp .ge 71, 3) := by decide +kernel
theorem dX6_playDirt_13 : decode cX6_playDirt 13 = .ok (.aload_n 0, 1) := by decide +kernel
theorem dX6_playDirt_14 : decode cX6_playDirt 14 = .ok (.iload_n 3, 1) := by decide +kernel
theorem dX6_playDirt_15 : decode cX6_playDirt 15 = .ok (.bipush 6, 2) := by decide +kernel
theorem dX6_playDirt_17 : decode cX6_playDirt 17 = .ok (.aload_n 0, 1) := by decide +kernel
theorem dX6_playDirt_18 : decode cX6_playDirt 18 = .ok (.getfield 10, 3) := by decide +kernel
theorem dX6_playDirt_21 : decode cX6_playDirt 21 = .ok (.getfield 105, 3) := by decide +kernel
theorem dX6_playDirt_24 : decode cX6_playDirt 24 = .ok (.iload_n 3, 1) := by decide +kernel
theorem dX6_playDirt_25 : decode cX6_playDirt 25 = .ok (.aaload, 1) := by decide +kernel
theorem dX6_playDirt_26 : decode cX6_playDirt 26 = .ok (.getfield 109, 3) := by decide +kernel
theorem dX6_playDirt_29 : decode cX6_playDirt 29 = .ok (.bipush 6, 2) := by decide +kernel
theorem dX6_playDirt_31 : decode cX6_playDirt 31 = .ok (.iaload, 1) := by decide +kernel
theorem dX6_playDirt_32 : decode cX6_playDirt 32 = .ok (.iload_n 2, 1) := by decide +kernel
theorem dX6_playDirt_33 : decode cX6_playDirt 33 = .ok (.invokevirtual 204, 3) := by decide +kernel
theorem dX6_playDirt_36 : decode cX6_playDirt 36 = .ok (.aload_n 0, 1) := by decide +kernel
theorem dX6_playDirt_37 : decode cX6_playDirt 37 = .ok (.getfield 57, 3) := by decide +kernel
theorem dX6_playDirt_40 : decode cX6_playDirt 40 = .ok (.iload_n 3, 1) := by decide +kernel
theorem dX6_playDirt_41 : decode cX6_playDirt 41 = .ok (.aload_n 0, 1) := by decide +kernel
theorem dX6_playDirt_42 : decode cX6_playDirt 42 = .ok (.getfield 50, 3) := by decide +kernel
theorem dX6_playDirt_45 : decode cX6_playDirt 45 = .ok (.getfield 195, 3) := by decide +kernel
theorem dX6_playDirt_48 : decode cX6_playDirt 48 = .ok (.iload_n 1, 1) := by decide +kernel
theorem dX6_playDirt_49 : decode cX6_playDirt 49 = .ok (.iaload, 1) := by decide +kernel
theorem dX6_playDirt_50 : decode cX6_playDirt 50 = .ok (.iastore, 1) := by decide +kernel
theorem dX6_playDirt_51 : decode cX6_playDirt 51 = .ok (.aload_n 0, 1) := by decide +kernel
theorem dX6_playDirt_52 : decode cX6_playDirt 52 = .ok (.iload_n 3, 1) := by decide +kernel
theorem dX6_playDirt_53 : decode cX6_playDirt 53 = .ok (.bipush 6, 2) := by decide +kernel
theorem dX6_playDirt_55 : decode cX6_playDirt 55 = .ok (.iconst 0, 1) := by decide +kernel
theorem dX6_playDirt_56 : decode cX6_playDirt 56 = .ok (.iload_n 2, 1) := by decide +kernel
theorem dX6_playDirt_57 : decode cX6_playDirt 57 = .ok (.invokevirtual 204, 3) := by decide +kernel
theorem dX6_playDirt_60 : decode cX6_playDirt 60 = .ok (.aload_n 0, 1) := by decide +kernel
theorem dX6_playDirt_61 : decode cX6_playDirt 61 = .ok (.getfield 60, 3) := by decide +kernel
theorem dX6_playDirt_64 : decode cX6_playDirt 64 = .ok (.iload_n 3, 1) := by decide +kernel
theorem dX6_playDirt_65 : decode cX6_playDirt 65 = .ok (.aload_n 0, 1) := by decide +kernel
theorem dX6_playDirt_66 : decode cX6_playDirt 66 = .ok (.getfield 50, 3) := by decide +kernel
theorem dX6_playDirt_69 : decode cX6_playDirt 69 = .ok (.getfield 195, 3) := by decide +kernel
theorem dX6_playDirt_72 : decode cX6_playDirt 72 = .ok (.iload_n 1, 1) := by decide +kernel
theorem dX6_playDirt_73 : decode cX6_playDirt 73 = .ok (.iaload, 1) := by decide +kernel
theorem dX6_playDirt_74 : decode cX6_playDirt 74 = .ok (.iastore, 1) := by decide +kernel
theorem dX6_playDirt_75 : decode cX6_playDirt 75 = .ok (.iinc 3 1, 3) := by decide +kernel
theorem dX6_playDirt_78 : decode cX6_playDirt 78 = .ok (.goto (-76), 3) := by decide +kernel
theorem dX6_playDirt_81 : decode cX6_playDirt 81 = .ok (.return_, 1) := by decide +kernel
theorem dX6_washing_0 : decode cX6_washing 0 = .ok (.iload_n 1, 1) := by decide +kernel
theorem dX6_washing_1 : decode cX6_washing 1 = .ok (.invokestatic 91, 3) := by decide +kernel
theorem dX6_washing_4 : decode cX6_washing 4 = .ok (.ifCond .eq 13, 3) := by decide +kernel
theorem dX6_washing_7 : decode cX6_washing 7 = .ok (.iload_n 2, 1) := by decide +kernel
theorem dX6_washing_8 : decode cX6_washing 8 = .ok (.iconst 1, 1) := by decide +kernel
theorem dX6_washing_9 : decode cX6_washing 9 = .ok (.bipush 12, 2) := by decide +kernel
theorem dX6_washing_11 : decode cX6_washing 11 = .ok (.invokestatic 74, 3) := by decide +kernel
theorem dX6_washing_14 : decode cX6_washing 14 = .ok (.ifCond .ne 9, 3) := by decide +kernel
theorem dX6_washing_17 : decode cX6_washing 17 = .ok (.aload_n 0, 1) := by decide +kernel
theorem dX6_washing_18 : decode cX6_washing 18 = .ok (.iconst 0, 1) := by decide +kernel
theorem dX6_washing_19 : decode cX6_washing 19 = .ok (.invokevirtual 78, 3) := by decide +kernel
theorem dX6_washing_22 : decode cX6_washing 22 = .ok (.ireturn, 1) := by decide +kernel
theorem dX6_washing_23 : decode cX6_washing 23 = .ok (.aload_n 0, 1) := by decide +kernel
theorem dX6_washing_24 : decode cX6_washing 24 = .ok (.iload_n 2, 1) := by decide +kernel
theorem dX6_washing_25 : decode cX6_washing 25 = .ok (.invokevirtual 172, 3) := by decide +kernel
theorem dX6_washing_28 : decode cX6_washing 28 = .ok (.ifCond .ne 9, 3) := by decide +kernel
theorem dX6_washing_31 : decode cX6_washing 31 = .ok (.aload_n 0, 1) := by decide +kernel
theorem dX6_washing_32 : decode cX6_washing 32 = .ok (.iconst 4, 1) := by decide +kernel
theorem dX6_washing_33 : decode cX6_washing 33 = .ok (.invokevirtual 78, 3) := by decide +kernel
theorem dX6_washing_36 : decode cX6_washing 36 = .ok (.ireturn, 1) := by decide +kernel
theorem dX6_washing_37 : decode cX6_washing 37 = .ok (.aload_n 0, 1) := by decide +kernel
theorem dX6_washing_38 : decode cX6_washing 38 = .ok (.iload_n 1, 1) := by decide +kernel
theorem dX6_washing_39 : decode cX6_washing 39 = .ok (.iload_n 2, 1) := by decide +kernel
theorem dX6_washing_40 : decode cX6_washing 40 = .ok (.invokevirtual 218, 3) := by decide +kernel
theorem dX6_washing_43 : decode cX6_washing 43 = .ok (.iconst (-1), 1) := by decide +kernel
theorem dX6_washing_44 : decode cX6_washing 44 = .ok (.istore_n 3, 1) := by decide +kernel
theorem dX6_washing_45 : decode cX6_washing 45 = .ok (.iconst (-1), 1) := by decide +kernel
theorem dX6_washing_46 : decode cX6_washing 46 = .ok (.istore 4, 2) := by decide +kernel
theorem dX6_washing_48 : decode cX6_washing 48 = .ok (.iconst 1, 1) := by decide +kernel
theorem dX6_washing_49 : decode cX6_washing 49 = .ok (.aload_n 0, 1) := by decide +kernel
theorem dX6_washing_50 : decode cX6_washing 50 = .ok (.getfield 10, 3) := by decide +kernel
theorem dX6_washing_53 : decode cX6_washing 53 = .ok (.getfield 178, 3) := by decide +kernel
theorem dX6_washing_56 : decode cX6_washing 56 = .ok (.ishl, 1) := by decide +kernel
theorem dX6_washing_57 : decode cX6_washing 57 = .ok (.istore 5, 2) := by decide +kernel
theorem dX6_washing_59 : decode cX6_washing 59 = .ok (.iconst 0, 1) := by decide +kernel
theorem dX6_washing_60 : decode cX6_washing 60 = .ok (.istore 6, 2) := by decide +kernel
theorem dX6_washing_62 : decode cX6_washing 62 = .ok (.iload 6, 2) := by decide +kernel
theorem dX6_washing_64 : decode cX6_washing 64 = .ok (.iload 5, 2) := by decide +kernel
theorem dX6_washing_66 : decode cX6_washing 66 = .ok (.if_icmp .ge 40, 3) := by decide +kernel
theorem dX6_washing_69 : decode cX6_washing 69 = .ok (.aload_n 0, 1) := by decide +kernel
theorem dX6_washing_70 : decode cX6_washing 70 = .ok (.iload 6, 2) := by decide +kernel
theorem dX6_washing_72 : decode cX6_washing 72 = .ok (.invokevirtual 221, 3) := by decide +kernel
theorem dX6_washing_75 : decode cX6_washing 75 = .ok (.istore 7, 2) := by decide +kernel
theorem dX6_washing_77 : decode cX6_washing 77 = .ok (.iload 7, 2) := by decide +kernel
theorem dX6_washing_79 : decode cX6_washing 79 = .ok (.iload 4, 2) := by decide +kernel
theorem dX6_washing_81 : decode cX6_washing 81 = .ok (.if_icmp .le 19, 3) := by decide +kernel
theorem dX6_washing_84 : decode cX6_washing 84 = .ok (.aload_n 0, 1) := by decide +kernel
theorem dX6_washing_85 : decode cX6_washing 85 = .ok (.iload 6, 2) := by decide +kernel
theorem dX6_washing_87 : decode cX6_washing 87 = .ok (.invokevirtual 224, 3) := by decide +kernel
theorem dX6_washing_90 : decode cX6_washing 90 = .ok (.ifCond .ne 10, 3) := by decide +kernel
theorem dX6_washing_93 : decode cX6_washing 93 = .ok (.iload 7, 2) := by decide +kernel
theorem dX6_washing_95 : decode cX6_washing 95 = .ok (.istore 4, 2) := by decide +kernel
theorem dX6_washing_97 : decode cX6_washing 97 = .ok (.iload 6, 2) := by decide +kernel
theorem dX6_washing_99 : decode cX6_washing 99 = .ok (.istore_n 3, 1) := by decide +kernel
theorem dX6_washing_100 : decode cX6_washing 100 = .ok (.iinc 6 1, 3) := by decide +kernel
theorem dX6_washing_103 : decode cX6_washing 103 = .ok (.goto (-41), 3) := by decide +kernel
theorem dX6_washing_106 : decode cX6_washing 106 = .ok (.iload_n 3, 1) := by decide +kernel
theorem dX6_washing_107 : decode cX6_washing 107 = .ok (.ifCond .ge 11, 3) := by decide +kernel
theorem dX6_washing_110 : decode cX6_washing 110 = .ok (.aload_n 0, 1) := by decide +kernel
theorem dX6_washing_111 : decode cX6_washing 111 = .ok (.iconst 3, 1) := by decide +kernel
theorem dX6_washing_112 : decode cX6_washing 112 = .ok (.invokevirtual 78, 3) := by decide +kernel
theorem dX6_washing_115 : decode cX6_washing 115 = .ok (.goto 4, 3) := by decide +kernel
theorem dX6_washing_118 : decode cX6_washing 118 = .ok (.iload_n 3, 1) := by decide +kernel
theorem dX6_washing_119 : decode cX6_washing 119 = .ok (.ireturn, 1) := by decide +kernel
theorem dX6_worst_0 : decode cX6_worst 0 = .ok (.iload_n 1, 1) := by decide +kernel
theorem dX6_worst_1 : decode cX6_worst 1 = .ok (.invokestatic 91, 3) := by decide +kernel
theorem dX6_worst_4 : decode cX6_worst 4 = .ok (.ifCond .eq 13, 3) := by decide +kernel
theorem dX6_worst_7 : decode cX6_worst 7 = .ok (.iload_n 2, 1) := by decide +kernel
theorem dX6_worst_8 : decode cX6_worst 8 = .ok (.iconst 1, 1) := by decide +kernel
theorem dX6_worst_9 : decode cX6_worst 9 = .ok (.bipush 24, 2) := by decide +kernel
theorem dX6_worst_11 : decode cX6_worst 11 = .ok (.invokestatic 74, 3) := by decide +kernel
theorem dX6_worst_14 : decode cX6_worst 14 = .ok (.ifCond .ne 9, 3) := by decide +kernel
theorem dX6_worst_17 : decode cX6_worst 17 = .ok (.aload_n 0, 1) := by decide +kernel
theorem dX6_worst_18 : decode cX6_worst 18 = .ok (.iconst 0, 1) := by decide +kernel
theorem dX6_worst_19 : decode cX6_worst 19 = .ok (.invokevirtual 78, 3) := by decide +kernel
theorem dX6_worst_22 : decode cX6_worst 22 = .ok (.ireturn, 1) := by decide +kernel
theorem dX6_worst_23 : decode cX6_worst 23 = .ok (.aload_n 0, 1) := by decide +kernel
theorem dX6_worst_24 : decode cX6_worst 24 = .ok (.iload_n 2, 1) := by decide +kernel
theorem dX6_worst_25 : decode cX6_worst 25 = .ok (.invokevirtual 172, 3) := by decide +kernel
theorem dX6_worst_28 : decode cX6_worst 28 = .ok (.ifCond .ne 9, 3) := by decide +kernel
theorem dX6_worst_31 : decode cX6_worst 31 = .ok (.aload_n 0, 1) := by decide +kernel
theorem dX6_worst_32 : decode cX6_worst 32 = .ok (.iconst 4, 1) := by decide +kernel
theorem dX6_worst_33 : decode cX6_worst 33 = .ok (.invokevirtual 78, 3) := by decide +kernel
theorem dX6_worst_36 : decode cX6_worst 36 = .ok (.ireturn, 1) := by decide +kernel
theorem dX6_worst_37 : decode cX6_worst 37 = .ok (.aload_n 0, 1) := by decide +kernel
theorem dX6_worst_38 : decode cX6_worst 38 = .ok (.getfield 10, 3) := by decide +kernel
theorem dX6_worst_41 : decode cX6_worst 41 = .ok (.getfield 178, 3) := by decide +kernel
theorem dX6_worst_44 : decode cX6_worst 44 = .ok (.ifCond .ne 9, 3) := by decide +kernel
theorem dX6_worst_47 : decode cX6_worst 47 = .ok (.aload_n 0, 1) := by decide +kernel
theorem dX6_worst_48 : decode cX6_worst 48 = .ok (.iconst 3, 1) := by decide +kernel
theorem dX6_worst_49 : decode cX6_worst 49 = .ok (.invokevirtual 78, 3) := by decide +kernel
theorem dX6_worst_52 : decode cX6_worst 52 = .ok (.ireturn, 1) := by decide +kernel
theorem dX6_worst_53 : decode cX6_worst 53 = .ok (.aload_n 0, 1) := by decide +kernel
theorem dX6_worst_54 : decode cX6_worst 54 = .ok (.iload_n 1, 1) := by decide +kernel
theorem dX6_worst_55 : decode cX6_worst 55 = .ok (.iload_n 2, 1) := by decide +kernel
theorem dX6_worst_56 : decode cX6_worst 56 = .ok (.invokevirtual 218, 3) := by decide +kernel
theorem dX6_worst_59 : decode cX6_worst 59 = .ok (.iconst 1, 1) := by decide +kernel
theorem dX6_worst_60 : decode cX6_worst 60 = .ok (.aload_n 0, 1) := by decide +kernel
theorem dX6_worst_61 : decode cX6_worst 61 = .ok (.getfield 10, 3) := by decide +kernel
theorem dX6_worst_64 : decode cX6_worst 64 = .ok (.getfield 178, 3) := by decide +kernel
theorem dX6_worst_67 : decode cX6_worst 67 = .ok (.ishl, 1) := by decide +kernel
theorem dX6_worst_68 : decode cX6_worst 68 = .ok (.iconst 1, 1) := by decide +kernel
theorem dX6_worst_69 : decode cX6_worst 69 = .ok (.isub, 1) := by decide +kernel
theorem dX6_worst_70 : decode cX6_worst 70 = .ok (.istore_n 3, 1) := by decide +kernel
theorem dX6_worst_71 : decode cX6_worst 71 = .ok (.iconst 0, 1) := by decide +kernel
theorem dX6_worst_72 : decode cX6_worst 72 = .ok (.istore 4, 2) := by decide +kernel
theorem dX6_worst_74 : decode cX6_worst 74 = .ok (.iconst 0, 1) := by decide +kernel
theorem dX6_worst_75 : decode cX6_worst 75 = .ok (.istore 5, 2) := by decide +kernel
theorem dX6_worst_77 : decode cX6_worst 77 = .ok (.iconst 0, 1) := by decide +kernel
theorem dX6_worst_78 : decode cX6_worst 78 = .ok (.istore 6, 2) := by decide +kernel
theorem dX6_worst_80 : decode cX6_worst 80 = .ok (.iload 6, 2) := by decide +kernel
theorem dX6_worst_82 : decode cX6_worst 82 = .ok (.aload_n 0, 1) := by decide +kernel
theorem dX6_worst_83 : decode cX6_worst 83 = .ok (.getfield 10, 3) := by decide +kernel
theorem dX6_worst_86 : decode cX6_worst 86 = .ok (.getfield 178, 3) := by decide +kernel
theorem dX6_worst_89 : decode cX6_worst 89 = .ok (.if_icmp .ge 43, 3) := by decide +kernel
theorem dX6_worst_92 : decode cX6_worst 92 = .ok (.aload_n 0, 1) := by decide +kernel
theorem dX6_worst_93 : decode cX6_worst 93 = .ok (.iload_n 3, 1) := by decide +kernel
theorem dX6_worst_94 : decode cX6_worst 94 = .ok (.iconst 1, 1) := by decide +kernel
theorem dX6_worst_95 : decode cX6_worst 95 = .ok (.iload 6, 2) := by decide +kernel
theorem dX6_worst_97 : decode cX6_worst 97 = .ok (.ishl, 1) := by decide +kernel
theorem dX6_worst_98 : decode cX6_worst 98 = .ok (.iconst (-1), 1) := by decide +kernel
theorem dX6_worst_99 : decode cX6_worst 99 = .ok (.ixor, 1) := by decide +kernel
theorem dX6_worst_100 : decode cX6_worst 100 = .ok (.iand, 1) := by decide +kernel
theorem dX6_worst_101 : decode cX6_worst 101 = .ok (.invokevirtual 224, 3) := by decide +kernel
theorem dX6_worst_104 : decode cX6_worst 104 = .ok (.istore 7, 2) := by decide +kernel
theorem dX6_worst_106 : decode cX6_worst 106 = .ok (.iload 6, 2) := by decide +kernel
theorem dX6_worst_108 : decode cX6_worst 108 = .ok (.ifCond .eq 10, 3) := by decide +kernel
theorem dX6_worst_111 : decode cX6_worst 111 = .ok (.iload 7, 2) := by decide +kernel
theorem dX6_worst_113 : decode cX6_worst 113 = .ok (.iload 5, 2) := by decide +kernel
theorem dX6_worst_115 : decode cX6_worst 115 = .ok (.if_icmp .ge 11, 3) := by decide +kernel
theorem dX6_worst_118 : decode cX6_worst 118 = .ok (.iload 7, 2) := by decide +kernel
theorem dX6_worst_120 : decode cX6_worst 120 = .ok (.istore 5, 2) := by decide +kernel
theorem dX6_worst_122 : decode cX6_worst 122 = .ok (.iload 6, 2) := by decide +kernel
theorem dX6_worst_124 : decode cX6_worst 124 = .ok (.istore 4, 2) := by decide +kernel
theorem dX6_worst_126 : decode cX6_worst 126 = .ok (.iinc 6 1, 3) := by decide +kernel
theorem dX6_worst_129 : decode cX6_worst 129 = .ok (.goto (-49), 3) := by decide +kernel
theorem dX6_worst_132 : decode cX6_worst 132 = .ok (.iload 4, 2) := by decide +kernel
theorem dX6_worst_134 : decode cX6_worst 134 = .ok (.ireturn, 1) := by decide +kernel
theorem dX6_over_0 : decode cX6_over 0 = .ok (.iload_n 1, 1) := by decide +kernel
theorem dX6_over_1 : decode cX6_over 1 = .ok (.invokestatic 70, 3) := by decide +kernel
theorem dX6_over_4 : decode cX6_over 4 = .ok (.ifCond .ne 9, 3) := by decide +kernel
theorem dX6_over_7 : decode cX6_over 7 = .ok (.aload_n 0, 1) := by decide +kernel
theorem dX6_over_8 : decode cX6_over 8 = .ok (.iconst 0, 1) := by decide +kernel
theorem dX6_over_9 : decode cX6_over 9 = .ok (.invokevirtual 78, 3) := by decide +kernel
theorem dX6_over_12 : decode cX6_over 12 = .ok (.ireturn, 1) := by decide +kernel
theorem dX6_over_13 : decode cX6_over 13 = .ok (.iconst 0, 1) := by decide +kernel
theorem dX6_over_14 : decode cX6_over 14 = .ok (.istore_n 2, 1) := by decide +kernel
theorem dX6_over_15 : decode cX6_over 15 = .ok (.iconst 0, 1) := by decide +kernel
theorem dX6_over_16 : decode cX6_over 16 = .ok (.istore_n 3, 1) := by decide +kernel
theorem dX6_over_17 : decode cX6_over 17 = .ok (.iload_n 3, 1) := by decide +kernel
theorem dX6_over_18 : decode cX6_over 18 = .ok (.aload_n 0, 1) := by decide +kernel
theorem dX6_over_19 : decode cX6_over 19 = .ok (.getfield 10, 3) := by decide +kernel
theorem dX6_over_22 : decode cX6_over 22 = .ok (.getfield 178, 3) := by decide +kernel
theorem dX6_over_25 : decode cX6_over 25 = .ok (.if_icmp .ge 32, 3) := by decide +kernel
theorem dX6_over_28 : decode cX6_over 28 = .ok (.aload_n 0, 1) := by decide +kernel
theorem dX6_over_29 : decode cX6_over 29 = .ok (.getfield 10, 3) := by decide +kernel
theorem dX6_over_32 : decode cX6_over 32 = .ok (.getfield 105, 3) := by decide +kernel
theorem dX6_over_35 : decode cX6_over 35 = .ok (.iload_n 3, 1) := by decide +kernel
theorem dX6_over_36 : decode cX6_over 36 = .ok (.aaload, 1) := by decide +kernel
theorem dX6_over_37 : decode cX6_over 37 = .ok (.getfield 150, 3) := by decide +kernel
theorem dX6_over_40 : decode cX6_over 40 = .ok (.iload_n 1, 1) := by decide +kernel
theorem dX6_over_41 : decode cX6_over 41 = .ok (.iaload, 1) := by decide +kernel
theorem dX6_over_42 : decode cX6_over 42 = .ok (.ifCond .le 9, 3) := by decide +kernel
theorem dX6_over_45 : decode cX6_over 45 = .ok (.iload_n 2, 1) := by decide +kernel
theorem dX6_over_46 : decode cX6_over 46 = .ok (.iconst 1, 1) := by decide +kernel
theorem dX6_over_47 : decode cX6_over 47 = .ok (.iload_n 3, 1) := by decide +kernel
theorem dX6_over_48 : decode cX6_over 48 = .ok (.ishl, 1) := by decide +kernel
theorem dX6_over_49 : decode cX6_over 49 = .ok (.ior, 1) := by decide +kernel
theorem dX6_over_50 : decode cX6_over 50 = .ok (.istore_n 2, 1) := by decide +kernel
theorem dX6_over_51 : decode cX6_over 51 = .ok (.iinc 3 1, 3) := by decide +kernel
theorem dX6_over_54 : decode cX6_over 54 = .ok (.goto (-37), 3) := by decide +kernel
theorem dX6_over_57 : decode cX6_over 57 = .ok (.iload_n 2, 1) := by decide +kernel
theorem dX6_over_58 : decode cX6_over 58 = .ok (.ireturn, 1) := by decide +kernel
theorem dX6_isUnder_0 : decode cX6_isUnder 0 = .ok (.iload_n 0, 1) := by decide +kernel
theorem dX6_isUnder_1 : decode cX6_isUnder 1 = .ok (.istore_n 2, 1) := by decide +kernel
theorem dX6_isUnder_2 : decode cX6_isUnder 2 = .ok (.iconst 0, 1) := by decide +kernel
theorem dX6_isUnder_3 : decode cX6_isUnder 3 = .ok (.istore_n 3, 1) := by decide +kernel
theorem dX6_isUnder_4 : decode cX6_isUnder 4 = .ok (.iload_n 3, 1) := by decide +kernel
theorem dX6_isUnder_5 : decode cX6_isUnder 5 = .ok (.iconst 3, 1) := by decide +kernel
theorem dX6_isUnder_6 : decode cX6_isUnder 6 = .ok (.if_icmp .ge 29, 3) := by decide +kernel
theorem dX6_isUnder_9 : decode cX6_isUnder 9 = .ok (.iload_n 2, 1) := by decide +kernel
theorem dX6_isUnder_10 : decode cX6_isUnder 10 = .ok (.invokestatic 88, 3) := by decide +kernel
theorem dX6_isUnder_13 : decode cX6_isUnder 13 = .ok (.ifCond .eq 22, 3) := by decide +kernel
theorem dX6_isUnder_16 : decode cX6_isUnder 16 = .ok (.iload_n 2, 1) := by decide +kernel
theorem dX6_isUnder_17 : decode cX6_isUnder 17 = .ok (.iload_n 1, 1) := by decide +kernel
theorem dX6_isUnder_18 : decode cX6_isUnder 18 = .ok (.if_icmp .ne 5, 3) := by decide +kernel
theorem dX6_isUnder_21 : decode cX6_isUnder 21 = .ok (.iconst 1, 1) := by decide +kernel
theorem dX6_isUnder_22 : decode cX6_isUnder 22 = .ok (.ireturn, 1) := by decide +kernel
theorem dX6_isUnder_23 : decode cX6_isUnder 23 = .ok (.getstatic 313, 3) := by decide +kernel
theorem dX6_isUnder_26 : decode cX6_isUnder 26 = .ok (.iload_n 2, 1) := by decide +kernel
theorem dX6_isUnder_27 : decode cX6_isUnder 27 = .ok (.iaload, 1) := by decide +kernel
theorem dX6_isUnder_28 : decode cX6_isUnder 28 = .ok (.istore_n 2, 1) := by decide +kernel
theorem dX6_isUnder_29 : decode cX6_isUnder 29 = .ok (.iinc 3 1, 3) := by decide +kernel
theorem dX6_isUnder_32 : decode cX6_isUnder 32 = .ok (.goto (-28), 3) := by decide +kernel
theorem dX6_isUnder_35 : decode cX6_isUnder 35 = .ok (.iconst 0, 1) := by decide +kernel
theorem dX6_isUnder_36 : decode cX6_isUnder 36 = .ok (.ireturn, 1) := by decide +kernel
theorem dX6_playAlone_0 : decode cX6_playAlone 0 = .ok (.aload_n 0, 1) := by decide +kernel
theorem dX6_playAlone_1 : decode cX6_playAlone 1 = .ok (.getfield 50, 3) := by decide +kernel
theorem dX6_playAlone_4 : decode cX6_playAlone 4 = .ok (.invokevirtual 175, 3) := by decide +kernel
theorem dX6_playAlone_7 : decode cX6_playAlone 7 = .ok (.aload_n 0, 1) := by decide +kernel
theorem dX6_playAlone_8 : decode cX6_playAlone 8 = .ok (.getfield 43, 3) := by decide +kernel
theorem dX6_playAlone_11 : decode cX6_playAlone 11 = .ok (.aload_n 0, 1) := by decide +kernel
theorem dX6_playAlone_12 : decode cX6_playAlone 12 = .ok (.getfield 10, 3) := by decide +kernel
theorem dX6_playAlone_15 : decode cX6_playAlone 15 = .ok (.getfield 105, 3) := by decide +kernel
theorem dX6_playAlone_18 : decode cX6_playAlone 18 = .ok (.iload_n 1, 1) := by decide +kernel
theorem dX6_playAlone_19 : decode cX6_playAlone 19 = .ok (.aaload, 1) := by decide +kernel
theorem dX6_playAlone_20 : decode cX6_playAlone 20 = .ok (.invokevirtual 191, 3) := by decide +kernel
theorem dX6_playAlone_23 : decode cX6_playAlone 23 = .ok (.aload_n 0, 1) := by decide +kernel
theorem dX6_playAlone_24 : decode cX6_playAlone 24 = .ok (.getfield 43, 3) := by decide +kernel
theorem dX6_playAlone_27 : decode cX6_playAlone 27 = .ok (.getfield 150, 3) := by decide +kernel
theorem dX6_playAlone_30 : decode cX6_playAlone 30 = .ok (.iconst 0, 1) := by decide +kernel
theorem dX6_playAlone_31 : decode cX6_playAlone 31 = .ok (.invokestatic 316, 3) := by decide +kernel
theorem dX6_playAlone_34 : decode cX6_playAlone 34 = .ok (.iconst 0, 1) := by decide +kernel
theorem dX6_playAlone_35 : decode cX6_playAlone 35 = .ok (.istore 4, 2) := by decide +kernel
theorem dX6_playAlone_37 : decode cX6_playAlone 37 = .ok (.iload 4, 2) := by decide +kernel
theorem dX6_playAlone_39 : decode cX6_playAlone 39 = .ok (.iload_n 3, 1) := by decide +kernel
theorem dX6_playAlone_40 : decode cX6_playAlone 40 = .ok (.if_icmp .ge 32, 3) := by decide +kernel
theorem dX6_playAlone_43 : decode cX6_playAlone 43 = .ok (.aload_n 0, 1) := by decide +kernel
theorem dX6_playAlone_44 : decode cX6_playAlone 44 = .ok (.getfield 10, 3) := by decide +kernel
theorem dX6_playAlone_47 : decode cX6_playAlone 47 = .ok (.aload_n 0, 1) := by decide +kernel
theorem dX6_playAlone_48 : decode cX6_playAlone 48 = .ok (.getfield 43, 3) := by decide +kernel
theorem dX6_playAlone_51 : decode cX6_playAlone 51 = .ok (.iload_n 2, 1) := by decide +kernel
theorem dX6_playAlone_52 : decode cX6_playAlone 52 = .ok (.iload 4, 2) := by decide +kernel
theorem dX6_playAlone_54 : decode cX6_playAlone 54 = .ok (.iadd, 1) := by decide +kernel
theorem dX6_playAlone_55 : decode cX6_playAlone 55 = .ok (.bipush 24, 2) := by decide +kernel
theorem dX6_playAlone_57 : decode cX6_playAlone 57 = .ok (.irem, 1) := by decide +kernel
theorem dX6_playAlone_58 : decode cX6_playAlone 58 = .ok (.iconst 1, 1) := by decide +kernel
theorem dX6_playAlone_59 : decode cX6_playAlone 59 = .ok (.aload_n 0, 1) := by decide +kernel
theorem dX6_playAlone_60 : decode cX6_playAlone 60 = .ok (.getfield 50, 3) := by decide +kernel
theorem dX6_playAlone_63 : decode cX6_playAlone 63 = .ok (.invokevirtual 325, 3) := by decide +kernel
theorem dX6_playAlone_66 : decode cX6_playAlone 66 = .ok (.iinc 4 1, 3) := by decide +kernel
theorem dX6_playAlone_69 : decode cX6_playAlone 69 = .ok (.goto (-32), 3) := by decide +kernel
theorem dX6_playAlone_72 : decode cX6_playAlone 72 = .ok (.return_, 1) := by decide +kernel
theorem dX6_canHave_0 : decode cX6_canHave 0 = .ok (.iload_n 1, 1) := by decide +kernel
theorem dX6_canHave_1 : decode cX6_canHave 1 = .ok (.invokestatic 88, 3) := by decide +kernel
theorem dX6_canHave_4 : decode cX6_canHave 4 = .ok (.ifCond .eq 31, 3) := by decide +kernel
theorem dX6_canHave_7 : decode cX6_canHave 7 = .ok (.iload_n 2, 1) := by decide +kernel
theorem dX6_canHave_8 : decode cX6_canHave 8 = .ok (.iconst 0, 1) := by decide +kernel
theorem dX6_canHave_9 : decode cX6_canHave 9 = .ok (.bipush 23, 2) := by decide +kernel
theorem dX6_canHave_11 : decode cX6_canHave 11 = .ok (.invokestatic 74, 3) := by decide +kernel
theorem dX6_canHave_14 : decode cX6_canHave 14 = .ok (.ifCond .eq 21, 3) := by decide +kernel
theorem dX6_canHave_17 : decode cX6_canHave 17 = .ok (.iload_n 3, 1) := by decide +kernel
theorem dX6_canHave_18 : decode cX6_canHave 18 = .ok (.invokestatic 70, 3) := by decide +kernel
theorem dX6_canHave_21 : decode cX6_canHave 21 = .ok (.ifCond .eq 14, 3) := by decide +kernel
theorem dX6_canHave_24 : decode cX6_canHave 24 = .ok (.iload 4, 2) := by decide +kernel
theorem dX6_canHave_26 : decode cX6_canHave 26 = .ok (.iconst 1, 1) := by decide +kernel
theorem dX6_canHave_27 : decode cX6_canHave 27 = .ok (.bipush 12, 2) := by decide +kernel
theorem dX6_canHave_29 : decode cX6_canHave 29 = .ok (.invokestatic 74, 3) := by decide +kernel
theorem dX6_canHave_32 : decode cX6_canHave 32 = .ok (.ifCond .ne 9, 3) := by decide +kernel
theorem dX6_canHave_35 : decode cX6_canHave 35 = .ok (.aload_n 0, 1) := by decide +kernel
theorem dX6_canHave_36 : decode cX6_canHave 36 = .ok (.iconst 0, 1) := by decide +kernel
theorem dX6_canHave_37 : decode cX6_canHave 37 = .ok (.invokevirtual 78, 3) := by decide +kernel
theorem dX6_canHave_40 : decode cX6_canHave 40 = .ok (.ireturn, 1) := by decide +kernel
theorem dX6_canHave_41 : decode cX6_canHave 41 = .ok (.iconst 0, 1) := by decide +kernel
theorem dX6_canHave_42 : decode cX6_canHave 42 = .ok (.istore 5, 2) := by decide +kernel
theorem dX6_canHave_44 : decode cX6_canHave 44 = .ok (.iconst 0, 1) := by decide +kernel
theorem dX6_canHave_45 : decode cX6_canHave 45 = .ok (.istore 6, 2) := by decide +kernel
theorem dX6_canHave_47 : decode cX6_canHave 47 = .ok (.iload 6, 2) := by decide +kernel
theorem dX6_canHave_49 : decode cX6_canHave 49 = .ok (.aload_n 0, 1) := by decide +kernel
theorem dX6_canHave_50 : decode cX6_canHave 50 = .ok (.getfield 10, 3) := by decide +kernel
theorem dX6_canHave_53 : decode cX6_canHave 53 = .ok (.getfield 178, 3) := by decide +kernel
theorem dX6_canHave_56 : decode cX6_canHave 56 = .ok (.if_icmp .ge 65, 3) := by decide +kernel
theorem dX6_canHave_59 : decode cX6_canHave 59 = .ok (.aload_n 0, 1) := by decide +kernel
theorem dX6_canHave_60 : decode cX6_canHave 60 = .ok (.getfield 10, 3) := by decide +kernel
theorem dX6_canHave_63 : decode cX6_canHave 63 = .ok (.getfield 105, 3) := by decide +kernel
theorem dX6_canHave_66 : decode cX6_canHave 66 = .ok (.iload 6, 2) := by decide +kernel
theorem dX6_canHave_68 : decode cX6_canHave 68 = .ok (.aaload, 1) := by decide +kernel
theorem dX6_canHave_69 : decode cX6_canHave 69 = .ok (.getfield 109, 3) := by decide +kernel
theorem dX6_canHave_72 : decode cX6_canHave 72 = .ok (.iconst 0, 1) := by decide +kernel
theorem dX6_canHave_73 : decode cX6_canHave 73 = .ok (.iaload, 1) := by decide +kernel
theorem dX6_canHave_74 : decode cX6_canHave 74 = .ok (.iload_n 1, 1) := by decide +kernel
theorem dX6_canHave_75 : decode cX6_canHave 75 = .ok (.invokestatic 227, 3) := by decide +kernel
theorem dX6_canHave_78 : decode cX6_canHave 78 = .ok (.ifCond .eq 37, 3) := by decide +kernel
theorem dX6_canHave_81 : decode cX6_canHave 81 = .ok (.aload_n 0, 1) := by decide +kernel
theorem dX6_canHave_82 : decode cX6_canHave 82 = .ok (.iload 6, 2) := by decide +kernel
theorem dX6_canHave_84 : decode cX6_canHave 84 = .ok (.iload_n 2, 1) := by decide +kernel
theorem dX6_canHave_85 : decode cX6_canHave 85 = .ok (.iload 4, 2) := by decide +kernel
theorem dX6_canHave_87 : decode cX6_canHave 87 = .ok (.invokevirtual 231, 3) := by decide +kernel
theorem dX6_canHave_90 : decode cX6_canHave 90 = .ok (.iload 5, 2) := by decide +kernel
theorem dX6_canHave_92 : decode cX6_canHave 92 = .ok (.aload_n 0, 1) := by decide +kernel
theorem dX6_canHave_93 : decode cX6_canHave 93 = .ok (.getfield 43, 3) := by decide +kernel
theorem dX6_canHave_96 : decode cX6_canHave 96 = .ok (.getfield 150, 3) := by decide +kernel
theorem dX6_canHave_99 : decode cX6_canHave 99 = .ok (.iload_n 3, 1) := by decide +kernel
theorem dX6_canHave_100 : decode cX6_canHave 100 = .ok (.iaload, 1) := by decide +kernel
theorem dX6_canHave_101 : decode cX6_canHave 101 = .ok (.ifCond .le 10, 3) := by decide +kernel
theorem dX6_canHave_104 : decode cX6_canHave 104 = .ok (.iconst 1, 1) := by decide +kernel
theorem dX6_canHave_105 : decode cX6_canHave 105 = .ok (.iload 6, 2) := by decide +kernel
theorem dX6_canHave_107 : decode cX6_canHave 107 = .ok (.ishl, 1) := by decide +kernel
theorem dX6_canHave_108 : decode cX6_canHave 108 = .ok (.goto 4, 3) := by decide +kernel
theorem dX6_canHave_111 : decode cX6_canHave 111 = .ok (.iconst 0, 1) := by decide +kernel
theorem dX6_canHave_112 : decode cX6_canHave 112 = .ok (.ior, 1) := by decide +kernel
theorem dX6_canHave_113 : decode cX6_canHave 113 = .ok (.istore 5, 2) := by decide +kernel
theorem dX6_canHave_115 : decode cX6_canHave 115 = .ok (.iinc 6 1, 3) := by decide +kernel
theorem dX6_canHave_118 : decode cX6_canHave 118 = .ok (.goto (-71), 3) := by decide +kernel
theorem dX6_canHave_121 : decode cX6_canHave 121 = .ok (.iload 5, 2) := by decide +kernel
theorem dX6_canHave_123 : decode cX6_canHave 123 = .ok (.ireturn, 1) := by decide +kernel
theorem dX6_clocks_0 : decode cX6_clocks 0 = .ok (.aload_n 0, 1) := by decide +kernel
theorem dX6_clocks_1 : decode cX6_clocks 1 = .ok (.iload_n 1, 1) := by decide +kernel
theorem dX6_clocks_2 : decode cX6_clocks 2 = .ok (.invokevirtual 102, 3) := by decide +kernel
theorem dX6_clocks_5 : decode cX6_clocks 5 = .ok (.ifCond .eq 20, 3) := by decide +kernel
theorem dX6_clocks_8 : decode cX6_clocks 8 = .ok (.iload_n 2, 1) := by decide +kernel
theorem dX6_clocks_9 : decode cX6_clocks 9 = .ok (.invokestatic 70, 3) := by decide +kernel
theorem dX6_clocks_12 : decode cX6_clocks 12 = .ok (.ifCond .eq 13, 3) := by decide +kernel
theorem dX6_clocks_15 : decode cX6_clocks 15 = .ok (.iload_n 3, 1) := by decide +kernel
theorem dX6_clocks_16 : decode cX6_clocks 16 = .ok (.iconst 1, 1) := by decide +kernel
theorem dX6_clocks_17 : decode cX6_clocks 17 = .ok (.bipush 12, 2) := by decide +kernel
theorem dX6_clocks_19 : decode cX6_clocks 19 = .ok (.invokestatic 74, 3) := by decide +kernel
theorem dX6_clocks_22 : decode cX6_clocks 22 = .ok (.ifCond .ne 9, 3) := by decide +kernel
theorem dX6_clocks_25 : decode cX6_clocks 25 = .ok (.aload_n 0, 1) := by decide +kernel
theorem dX6_clocks_26 : decode cX6_clocks 26 = .ok (.iconst 0, 1) := by decide +kernel
theorem dX6_clocks_27 : decode cX6_clocks 27 = .ok (.invokevirtual 78, 3) := by decide +kernel
theorem dX6_clocks_30 : decode cX6_clocks 30 = .ok (.ireturn, 1) := by decide +kernel
theorem dX6_clocks_31 : decode cX6_clocks 31 = .ok (.aload_n 0, 1) := by decide +kernel
theorem dX6_clocks_32 : decode cX6_clocks 32 = .ok (.getfield 10, 3) := by decide +kernel
theorem dX6_clocks_35 : decode cX6_clocks 35 = .ok (.getfield 105, 3) := by decide +kernel
theorem dX6_clocks_38 : decode cX6_clocks 38 = .ok (.iload_n 1, 1) := by decide +kernel
theorem dX6_clocks_39 : decode cX6_clocks 39 = .ok (.aaload, 1) := by decide +kernel
theorem dX6_clocks_40 : decode cX6_clocks 40 = .ok (.getfield 109, 3) := by decide +kernel
theorem dX6_clocks_43 : decode cX6_clocks 43 = .ok (.iconst 2, 1) := by decide +kernel
theorem dX6_clocks_44 : decode cX6_clocks 44 = .ok (.iaload, 1) := by decide +kernel
theorem dX6_clocks_45 : decode cX6_clocks 45 = .ok (.istore 4, 2) := by decide +kernel
theorem dX6_clocks_47 : decode cX6_clocks 47 = .ok (.iconst 0, 1) := by decide +kernel
theorem dX6_clocks_48 : decode cX6_clocks 48 = .ok (.istore 5, 2) := by decide +kernel
theorem dX6_clocks_50 : decode cX6_clocks 50 = .ok (.iconst 0, 1) := by decide +kernel
theorem dX6_clocks_51 : decode cX6_clocks 51 = .ok (.istore 6, 2) := by decide +kernel
theorem dX6_clocks_53 : decode cX6_clocks 53 = .ok (.iload 6, 2) := by decide +kernel
theorem dX6_clocks_55 : decode cX6_clocks 55 = .ok (.bipush 24, 2) := by decide +kernel
theorem dX6_clocks_57 : decode cX6_clocks 57 = .ok (.if_icmp .ge 34, 3) := by decide +kernel
theorem dX6_clocks_60 : decode cX6_clocks 60 = .ok (.aload_n 0, 1) := by decide +kernel
theorem dX6_clocks_61 : decode cX6_clocks 61 = .ok (.getfield 10, 3) := by decide +kernel
theorem dX6_clocks_64 : decode cX6_clocks 64 = .ok (.iload 4, 2) := by decide +kernel
theorem dX6_clocks_66 : decode cX6_clocks 66 = .ok (.iload 6, 2) := by decide +kernel
theorem dX6_clocks_68 : decode cX6_clocks 68 = .ok (.iload_n 3, 1) := by decide +kernel
theorem dX6_clocks_69 : decode cX6_clocks 69 = .ok (.invokevirtual 235, 3) := by decide +kernel
theorem dX6_clocks_72 : decode cX6_clocks 72 = .ok (.iload_n 2, 1) := by decide +kernel
theorem dX6_clocks_73 : decode cX6_clocks 73 = .ok (.if_icmp .ne 12, 3) := by decide +kernel
theorem dX6_clocks_76 : decode cX6_clocks 76 = .ok (.iload 5, 2) := by decide +kernel
theorem dX6_clocks_78 : decode cX6_clocks 78 = .ok (.iconst 1, 1) := by decide +kernel
theorem dX6_clocks_79 : decode cX6_clocks 79 = .ok (.iload 6, 2) := by decide +kernel
theorem dX6_clocks_81 : decode cX6_clocks 81 = .ok (.ishl, 1) := by decide +kernel
theorem dX6_clocks_82 : decode cX6_clocks 82 = .ok (.ior, 1) := by decide +kernel
theorem dX6_clocks_83 : decode cX6_clocks 83 = .ok (.istore 5, 2) := by decide +kernel
theorem dX6_clocks_85 : decode cX6_clocks 85 = .ok (.iinc 6 1, 3) := by decide +kernel
theorem dX6_clocks_88 : decode cX6_clocks 88 = .ok (.goto (-35), 3) := by decide +kernel
theorem dX6_clocks_91 : decode cX6_clocks 91 = .ok (.iload 5, 2) := by decide +kernel
theorem dX6_clocks_93 : decode cX6_clocks 93 = .ok (.ireturn, 1) := by decide +kernel
theorem dX6_weather_0 : decode cX6_weather 0 = .ok (.iload_n 1, 1) := by decide +kernel
theorem dX6_weather_1 : decode cX6_weather 1 = .ok (.iconst 1, 1) := by decide +kernel
theorem dX6_weather_2 : decode cX6_weather 2 = .ok (.bipush 24, 2) := by decide +kernel
theorem dX6_weather_4 : decode cX6_weather 4 = .ok (.invokestatic 74, 3) := by decide +kernel
theorem dX6_weather_7 : decode cX6_weather 7 = .ok (.ifCond .ne 9, 3) := by decide +kernel
theorem dX6_weather_10 : decode cX6_weather 10 = .ok (.aload_n 0, 1) := by decide +kernel
theorem dX6_weather_11 : decode cX6_weather 11 = .ok (.iconst 0, 1) := by decide +kernel
theorem dX6_weather_12 : decode cX6_weather 12 = .ok (.invokevirtual 78, 3) := by decide +kernel
theorem dX6_weather_15 : decode cX6_weather 15 = .ok (.ireturn, 1) := by decide +kernel
theorem dX6_weather_16 : decode cX6_weather 16 = .ok (.iconst 0, 1) := by decide +kernel
theorem dX6_weather_17 : decode cX6_weather 17 = .ok (.istore_n 2, 1) := by decide +kernel
theorem dX6_weather_18 : decode cX6_weather 18 = .ok (.iload_n 2, 1) := by decide +kernel
theorem dX6_weather_19 : decode cX6_weather 19 = .ok (.iload_n 1, 1) := by decide +kernel
theorem dX6_weather_20 : decode cX6_weather 20 = .ok (.if_icmp .ge 38, 3) := by decide +kernel
theorem dX6_weather_23 : decode cX6_weather 23 = .ok (.aload_n 0, 1) := by decide +kernel
theorem dX6_weather_24 : decode cX6_weather 24 = .ok (.getfield 10, 3) := by decide +kernel
theorem dX6_weather_27 : decode cX6_weather 27 = .ok (.invokevirtual 238, 3) := by decide +kernel
theorem dX6_weather_30 : decode cX6_weather 30 = .ok (.bipush 24, 2) := by decide +kernel
theorem dX6_weather_32 : decode cX6_weather 32 = .ok (.irem, 1) := by decide +kernel
theorem dX6_weather_33 : decode cX6_weather 33 = .ok (.istore_n 3, 1) := by decide +kernel
theorem dX6_weather_34 : decode cX6_weather 34 = .ok (.aload_n 0, 1) := by decide +kernel
theorem dX6_weather_35 : decode cX6_weather 35 = .ok (.getfield 10, 3) := by decide +kernel
theorem dX6_weather_38 : decode cX6_weather 38 = .ok (.getfield 85, 3) := by decide +kernel
theorem dX6_weather_41 : decode cX6_weather 41 = .ok (.iload_n 3, 1) := by decide +kernel
theorem dX6_weather_42 : decode cX6_weather 42 = .ok (.aload_n 0, 1) := by decide +kernel
theorem dX6_weather_43 : decode cX6_weather 43 = .ok (.getfield 10, 3) := by decide +kernel
theorem dX6_weather_46 : decode cX6_weather 46 = .ok (.invokevirtual 238, 3) := by decide +kernel
theorem dX6_weather_49 : decode cX6_weather 49 = .ok (.iconst 5, 1) := by decide +kernel
theorem dX6_weather_50 : decode cX6_weather 50 = .ok (.irem, 1) := by decide +kernel
theorem dX6_weather_51 : decode cX6_weather 51 = .ok (.iastore, 1) := by decide +kernel
theorem dX6_weather_52 : decode cX6_weather 52 = .ok (.iinc 2 1, 3) := by decide +kernel
theorem dX6_weather_55 : decode cX6_weather 55 = .ok (.goto (-37), 3) := by decide +kernel
theorem dX6_weather_58 : decode cX6_weather 58 = .ok (.iconst 0, 1) := by decide +kernel
theorem dX6_weather_59 : decode cX6_weather 59 = .ok (.istore_n 2, 1) := by decide +kernel
theorem dX6_weather_60 : decode cX6_weather 60 = .ok (.iconst 0, 1) := by decide +kernel
theorem dX6_weather_61 : decode cX6_weather 61 = .ok (.istore_n 3, 1) := by decide +kernel
theorem dX6_weather_62 : decode cX6_weather 62 = .ok (.iload_n 3, 1) := by decide +kernel
theorem dX6_weather_63 : decode cX6_weather 63 = .ok (.bipush 24, 2) := by decide +kernel
theorem dX6_weather_65 : decode cX6_weather 65 = .ok (.if_icmp .ge 29, 3) := by decide +kernel
theorem dX6_weather_68 : decode cX6_weather 68 = .ok (.iload_n 2, 1) := by decide +kernel
theorem dX6_weather_69 : decode cX6_weather 69 = .ok (.aload_n 0, 1) := by decide +kernel
theorem dX6_weather_70 : decode cX6_weather 70 = .ok (.getfield 10, 3) := by decide +kernel
theorem dX6_weather_73 : decode cX6_weather 73 = .ok (.getfield 85, 3) := by decide +kernel
theorem dX6_weather_76 : decode cX6_weather 76 = .ok (.iload_n 3, 1) := by decide +kernel
theorem dX6_weather_77 : decode cX6_weather 77 = .ok (.iaload, 1) := by decide +kernel
theorem dX6_weather_78 : decode cX6_weather 78 = .ok (.ifCond .ne 7, 3) := by decide +kernel
theorem dX6_weather_81 : decode cX6_weather 81 = .ok (.iconst 1, 1) := by decide +kernel
theorem dX6_weather_82 : decode cX6_weather 82 = .ok (.goto 4, 3) := by decide +kernel
theorem dX6_weather_85 : decode cX6_weather 85 = .ok (.iconst 0, 1) := by decide +kernel
theorem dX6_weather_86 : decode cX6_weather 86 = .ok (.iadd, 1) := by decide +kernel
theorem dX6_weather_87 : decode cX6_weather 87 = .ok (.istore_n 2, 1) := by decide +kernel
theorem dX6_weather_88 : decode cX6_weather 88 = .ok (.iinc 3 1, 3) := by decide +kernel
theorem dX6_weather_91 : decode cX6_weather 91 = .ok (.goto (-29), 3) := by decide +kernel
theorem dX6_weather_94 : decode cX6_weather 94 = .ok (.iload_n 2, 1) := by decide +kernel
theorem dX6_weather_95 : decode cX6_weather 95 = .ok (.ireturn, 1) := by decide +kernel
theorem dX6_seed_0 : decode cX6_seed 0 = .ok (.aload_n 0, 1) := by decide +kernel
theorem dX6_seed_1 : decode cX6_seed 1 = .ok (.getfield 10, 3) := by decide +kernel
theorem dX6_seed_4 : decode cX6_seed 4 = .ok (.getfield 241, 3) := by decide +kernel
theorem dX6_seed_7 : decode cX6_seed 7 = .ok (.istore_n 2, 1) := by decide +kernel
theorem dX6_seed_8 : decode cX6_seed 8 = .ok (.aload_n 0, 1) := by decide +kernel
theorem dX6_seed_9 : decode cX6_seed 9 = .ok (.getfield 10, 3) := by decide +kernel
theorem dX6_seed_12 : decode cX6_seed 12 = .ok (.iload_n 1, 1) := by decide +kernel
theorem dX6_seed_13 : decode cX6_seed 13 = .ok (.putfield 241, 3) := by decide +kernel
theorem dX6_seed_16 : decode cX6_seed 16 = .ok (.iload_n 2, 1) := by decide +kernel
theorem dX6_seed_17 : decode cX6_seed 17 = .ok (.ireturn, 1) := by decide +kernel
theorem dX6_feed_0 : decode cX6_feed 0 = .ok (.iload_n 2, 1) := by decide +kernel
theorem dX6_feed_1 : decode cX6_feed 1 = .ok (.iconst 1, 1) := by decide +kernel
theorem dX6_feed_2 : decode cX6_feed 2 = .ok (.iconst 4, 1) := by decide +kernel
theorem dX6_feed_3 : decode cX6_feed 3 = .ok (.invokestatic 74, 3) := by decide +kernel
theorem dX6_feed_6 : decode cX6_feed 6 = .ok (.ifCond .ne 9, 3) := by decide +kernel
theorem dX6_feed_9 : decode cX6_feed 9 = .ok (.aload_n 0, 1) := by decide +kernel
theorem dX6_feed_10 : decode cX6_feed 10 = .ok (.iconst 0, 1) := by decide +kernel
theorem dX6_feed_11 : decode cX6_feed 11 = .ok (.invokevirtual 78, 3) := by decide +kernel
theorem dX6_feed_14 : decode cX6_feed 14 = .ok (.ireturn, 1) := by decide +kernel
theorem dX6_feed_15 : decode cX6_feed 15 = .ok (.aload_n 0, 1) := by decide +kernel
theorem dX6_feed_16 : decode cX6_feed 16 = .ok (.getfield 26, 3) := by decide +kernel
theorem dX6_feed_19 : decode cX6_feed 19 = .ok (.getfield 244, 3) := by decide +kernel
theorem dX6_feed_22 : decode cX6_feed 22 = .ok (.astore_n 3, 1) := by decide +kernel
theorem dX6_feed_23 : decode cX6_feed 23 = .ok (.aload_n 3, 1) := by decide +kernel
theorem dX6_feed_24 : decode cX6_feed 24 = .ok (.getfield 248, 3) := by decide +kernel
theorem dX6_feed_27 : decode cX6_feed 27 = .ok (.iload_n 2, 1) := by decide +kernel
theorem dX6_feed_28 : decode cX6_feed 28 = .ok (.iadd, 1) := by decide +kernel
theorem dX6_feed_29 : decode cX6_feed 29 = .ok (.bipush 120, 2) := by decide +kernel
theorem dX6_feed_31 : decode cX6_feed 31 = .ok (.if_icmp .le 9, 3) := by decide +kernel
theorem dX6_feed_34 : decode cX6_feed 34 = .ok (.aload_n 0, 1) := by decide +kernel
theorem dX6_feed_35 : decode cX6_feed 35 = .ok (.iconst 1, 1) := by decide +kernel
theorem dX6_feed_36 : decode cX6_feed 36 = .ok (.invokevirtual 78, 3) := by decide +kernel
theorem dX6_feed_39 : decode cX6_feed 39 = .ok (.ireturn, 1) := by decide +kernel
theorem dX6_feed_40 : decode cX6_feed 40 = .ok (.iload_n 2, 1) := by decide +kernel
theorem dX6_feed_41 : decode cX6_feed 41 = .ok (.iconst 1, 1) := by decide +kernel
theorem dX6_feed_42 : decode cX6_feed 42 = .ok (.isub, 1) := by decide +kernel
theorem dX6_feed_43 : decode cX6_feed 43 = .ok (.istore 4, 2) := by decide +kernel
theorem dX6_feed_45 : decode cX6_feed 45 = .ok (.iload 4, 2) := by decide +kernel
theorem dX6_feed_47 : decode cX6_feed 47 = .ok (.ifCond .lt 39, 3) := by decide +kernel
theorem dX6_feed_50 : decode cX6_feed 50 = .ok (.aload_n 3, 1) := by decide +kernel
theorem dX6_feed_51 : decode cX6_feed 51 = .ok (.getfield 253, 3) := by decide +kernel
theorem dX6_feed_54 : decode cX6_feed 54 = .ok (.aload_n 3, 1) := by decide +kernel
theorem dX6_feed_55 : decode cX6_feed 55 = .ok (.getfield 248, 3) := by decide +kernel
theorem dX6_feed_58 : decode cX6_feed 58 = .ok (.iload_n 1, 1) := by decide +kernel
theorem dX6_feed_59 : decode cX6_feed 59 = .ok (.bipush 8, 2) := by decide +kernel
theorem dX6_feed_61 : decode cX6_feed 61 = .ok (.iload 4, 2) := by decide +kernel
theorem dX6_feed_63 : decode cX6_feed 63 = .ok (.imul, 1) := by decide +kernel
theorem dX6_feed_64 : decode cX6_feed 64 = .ok (.iushr, 1) := by decide +kernel
theorem dX6_feed_65 : decode cX6_feed 65 = .ok (.sipush 255, 3) := by decide +kernel
theorem dX6_feed_68 : decode cX6_feed 68 = .ok (.iand, 1) := by decide +kernel
theorem dX6_feed_69 : decode cX6_feed 69 = .ok (.iastore, 1) := by decide +kernel
theorem dX6_feed_70 : decode cX6_feed 70 = .ok (.aload_n 3, 1) := by decide +kernel
theorem dX6_feed_71 : decode cX6_feed 71 = .ok (.dup, 1) := by decide +kernel
theorem dX6_feed_72 : decode cX6_feed 72 = .ok (.getfield 248, 3) := by decide +kernel
theorem dX6_feed_75 : decode cX6_feed 75 = .ok (.iconst 1, 1) := by decide +kernel
theorem dX6_feed_76 : decode cX6_feed 76 = .ok (.iadd, 1) := by decide +kernel
theorem dX6_feed_77 : decode cX6_feed 77 = .ok (.putfield 248, 3) := by decide +kernel
theorem dX6_feed_80 : decode cX6_feed 80 = .ok (.iinc 4 (-1), 3) := by decide +kernel
theorem dX6_feed_83 : decode cX6_feed 83 = .ok (.goto (-38), 3) := by decide +kernel
theorem dX6_feed_86 : decode cX6_feed 86 = .ok (.aload_n 3, 1) := by decide +kernel
theorem dX6_feed_87 : decode cX6_feed 87 = .ok (.getfield 248, 3) := by decide +kernel
theorem dX6_feed_90 : decode cX6_feed 90 = .ok (.ireturn, 1) := by decide +kernel
theorem dX6_wipe_0 : decode cX6_wipe 0 = .ok (.aload_n 0, 1) := by decide +kernel
theorem dX6_wipe_1 : decode cX6_wipe 1 = .ok (.getfield 26, 3) := by decide +kernel
theorem dX6_wipe_4 : decode cX6_wipe 4 = .ok (.getfield 244, 3) := by decide +kernel
theorem dX6_wipe_7 : decode cX6_wipe 7 = .ok (.getfield 248, 3) := by decide +kernel
theorem dX6_wipe_10 : decode cX6_wipe 10 = .ok (.istore_n 1, 1) := by decide +kernel
theorem dX6_wipe_11 : decode cX6_wipe 11 = .ok (.aload_n 0, 1) := by decide +kernel
theorem dX6_wipe_12 : decode cX6_wipe 12 = .ok (.getfield 26, 3) := by decide +kernel
theorem dX6_wipe_15 : decode cX6_wipe 15 = .ok (.getfield 244, 3) := by decide +kernel
theorem dX6_wipe_18 : decode cX6_wipe 18 = .ok (.iconst 0, 1) := by decide +kernel
theorem dX6_wipe_19 : decode cX6_wipe 19 = .ok (.putfield 248, 3) := by decide +kernel
theorem dX6_wipe_22 : decode cX6_wipe 22 = .ok (.iload_n 1, 1) := by decide +kernel
theorem dX6_wipe_23 : decode cX6_wipe 23 = .ok (.ireturn, 1) := by decide +kernel
theorem dX6_text_0 : decode cX6_text 0 = .ok (.aload_n 0, 1) := by decide +kernel
theorem dX6_text_1 : decode cX6_text 1 = .ok (.getfield 26, 3) := by decide +kernel
theorem dX6_text_4 : decode cX6_text 4 = .ok (.aload_n 0, 1) := by decide +kernel
theorem dX6_text_5 : decode cX6_text 5 = .ok (.getfield 10, 3) := by decide +kernel
theorem dX6_text_8 : decode cX6_text 8 = .ok (.iconst 0, 1) := by decide +kernel
theorem dX6_text_9 : decode cX6_text 9 = .ok (.invokevirtual 256, 3) := by decide +kernel
theorem dX6_text_12 : decode cX6_text 12 = .ok (.istore_n 1, 1) := by decide +kernel
theorem dX6_text_13 : decode cX6_text 13 = .ok (.iload_n 1, 1) := by decide +kernel
theorem dX6_text_14 : decode cX6_text 14 = .ok (.istore_n 2, 1) := by decide +kernel
theorem dX6_text_15 : decode cX6_text 15 = .ok (.aload_n 0, 1) := by decide +kernel
theorem dX6_text_16 : decode cX6_text 16 = .ok (.getfield 26, 3) := by decide +kernel
theorem dX6_text_19 : decode cX6_text 19 = .ok (.getfield 244, 3) := by decide +kernel
theorem dX6_text_22 : decode cX6_text 22 = .ok (.invokevirtual 260, 3) := by decide +kernel
theorem dX6_text_25 : decode cX6_text 25 = .ok (.ifCond .eq 19, 3) := by decide +kernel
theorem dX6_text_28 : decode cX6_text 28 = .ok (.iconst (-1), 1) := by decide +kernel
theorem dX6_text_29 : decode cX6_text 29 = .ok (.aload_n 0, 1) := by decide +kernel
theorem dX6_text_30 : decode cX6_text 30 = .ok (.getfield 26, 3) := by decide +kernel
theorem dX6_text_33 : decode cX6_text 33 = .ok (.getfield 244, 3) := by decide +kernel
theorem dX6_text_36 : decode cX6_text 36 = .ok (.getfield 263, 3) := by decide +kernel
theorem dX6_text_39 : decode cX6_text 39 = .ok (.isub, 1) := by decide +kernel
theorem dX6_text_40 : decode cX6_text 40 = .ok (.istore_n 2, 1) := by decide +kernel
theorem dX6_text_41 : decode cX6_text 41 = .ok (.goto 16, 3) := by decide +kernel
theorem dX6_text_44 : decode cX6_text 44 = .ok (.aload_n 0, 1) := by decide +kernel
theorem dX6_text_45 : decode cX6_text 45 = .ok (.getfield 26, 3) := by decide +kernel
theorem dX6_text_48 : decode cX6_text 48 = .ok (.aload_n 0, 1) := by decide +kernel
theorem dX6_text_49 : decode cX6_text 49 = .ok (.getfield 10, 3) := by decide +kernel
theorem dX6_text_52 : decode cX6_text 52 = .ok (.iconst 1, 1) := by decide +kernel
theorem dX6_text_53 : decode cX6_text 53 = .ok (.invokevirtual 256, 3) := by decide +kernel
theorem dX6_text_56 : decode cX6_text 56 = .ok (.pop, 1) := by decide +kernel
theorem dX6_text_57 : decode cX6_text 57 = .ok (.aload_n 0, 1) := by decide +kernel
theorem dX6_text_58 : decode cX6_text 58 = .ok (.getfield 26, 3) := by decide +kernel
theorem dX6_text_61 : decode cX6_text 61 = .ok (.getfield 244, 3) := by decide +kernel
theorem dX6_text_64 : decode cX6_text 64 = .ok (.iconst 0, 1) := by decide +kernel
theorem dX6_text_65 : decode cX6_text 65 = .ok (.putfield 248, 3) := by decide +kernel
theorem dX6_text_68 : decode cX6_text 68 = .ok (.iload_n 2, 1) := by decide +kernel
theorem dX6_text_69 : decode cX6_text 69 = .ok (.ireturn, 1) := by decide +kernel
theorem dX6_isSpot_0 : decode cX6_isSpot 0 = .ok (.iload_n 0, 1) := by decide +kernel
theorem dX6_isSpot_1 : decode cX6_isSpot 1 = .ok (.iconst 0, 1) := by decide +kernel
theorem dX6_isSpot_2 : decode cX6_isSpot 2 = .ok (.bipush 9, 2) := by decide +kernel
theorem dX6_isSpot_4 : decode cX6_isSpot 4 = .ok (.invokestatic 74, 3) := by decide +kernel
theorem dX6_isSpot_7 : decode cX6_isSpot 7 = .ok (.ireturn, 1) := by decide +kernel
theorem dX6_hold_0 : decode cX6_hold 0 = .ok (.iload_n 1, 1) := by decide +kernel
theorem dX6_hold_1 : decode cX6_hold 1 = .ok (.invokestatic 266, 3) := by decide +kernel
theorem dX6_hold_4 : decode cX6_hold 4 = .ok (.ifCond .eq 20, 3) := by decide +kernel
theorem dX6_hold_7 : decode cX6_hold 7 = .ok (.iload_n 2, 1) := by decide +kernel
theorem dX6_hold_8 : decode cX6_hold 8 = .ok (.iconst (-1), 1) := by decide +kernel
theorem dX6_hold_9 : decode cX6_hold 9 = .ok (.aload_n 0, 1) := by decide +kernel
theorem dX6_hold_10 : decode cX6_hold 10 = .ok (.getfield 10, 3) := by decide +kernel
theorem dX6_hold_13 : decode cX6_hold 13 = .ok (.getfield 178, 3) := by decide +kernel
theorem dX6_hold_16 : decode cX6_hold 16 = .ok (.iconst 1, 1) := by decide +kernel
theorem dX6_hold_17 : decode cX6_hold 17 = .ok (.isub, 1) := by decide +kernel
theorem dX6_hold_18 : decode cX6_hold 18 = .ok (.invokestatic 74, 3) := by decide +kernel
theorem dX6_hold_21 : decode cX6_hold 21 = .ok (.ifCond .ne 9, 3) := by decide +kernel
theorem dX6_hold_24 : decode cX6_hold 24 = .ok (.aload_n 0, 1) := by decide +kernel
theorem dX6_hold_25 : decode cX6_hold 25 = .ok (.iconst 0, 1) := by decide +kernel
theorem dX6_hold_26 : decode cX6_hold 26 = .ok (.invokevirtual 78, 3) := by decide +kernel
theorem dX6_hold_29 : decode cX6_hold 29 = .ok (.ireturn, 1) := by decide +kernel
theorem dX6_hold_30 : decode cX6_hold 30 = .ok (.aload_n 0, 1) := by decide +kernel
theorem dX6_hold_31 : decode cX6_hold 31 = .ok (.getfield 10, 3) := by decide +kernel
theorem dX6_hold_34 : decode cX6_hold 34 = .ok (.getfield 269, 3) := by decide +kernel
theorem dX6_hold_37 : decode cX6_hold 37 = .ok (.iload_n 1, 1) := by decide +kernel
theorem dX6_hold_38 : decode cX6_hold 38 = .ok (.iload_n 2, 1) := by decide +kernel
theorem dX6_hold_39 : decode cX6_hold 39 = .ok (.iastore, 1) := by decide +kernel
theorem dX6_hold_40 : decode cX6_hold 40 = .ok (.iconst 1, 1) := by decide +kernel
theorem dX6_hold_41 : decode cX6_hold 41 = .ok (.ireturn, 1) := by decide +kernel
theorem dX6_as_0 : decode cX6_as 0 = .ok (.iload_n 1, 1) := by decide +kernel
theorem dX6_as_1 : decode cX6_as 1 = .ok (.invokestatic 266, 3) := by decide +kernel
theorem dX6_as_4 : decode cX6_as 4 = .ok (.ifCond .eq 10, 3) := by decide +kernel
theorem dX6_as_7 : decode cX6_as 7 = .ok (.iload_n 2, 1) := by decide +kernel
theorem dX6_as_8 : decode cX6_as 8 = .ok (.invokestatic 88, 3) := by decide +kernel
theorem dX6_as_11 : decode cX6_as 11 = .ok (.ifCond .ne 9, 3) := by decide +kernel
theorem dX6_as_14 : decode cX6_as 14 = .ok (.aload_n 0, 1) := by decide +kernel
theorem dX6_as_15 : decode cX6_as 15 = .ok (.iconst 0, 1) := by decide +kernel
theorem dX6_as_16 : decode cX6_as 16 = .ok (.invokevirtual 78, 3) := by decide +kernel
theorem dX6_as_19 : decode cX6_as 19 = .ok (.ireturn, 1) := by decide +kernel
theorem dX6_as_20 : decode cX6_as 20 = .ok (.aload_n 0, 1) := by decide +kernel
theorem dX6_as_21 : decode cX6_as 21 = .ok (.getfield 10, 3) := by decide +kernel
theorem dX6_as_24 : decode cX6_as 24 = .ok (.getfield 269, 3) := by decide +kernel
theorem dX6_as_27 : decode cX6_as 27 = .ok (.iload_n 1, 1) := by decide +kernel
theorem dX6_as_28 : decode cX6_as 28 = .ok (.iaload, 1) := by decide +kernel
theorem dX6_as_29 : decode cX6_as 29 = .ok (.istore_n 3, 1) := by decide +kernel
theorem dX6_as_30 : decode cX6_as 30 = .ok (.aload_n 0, 1) := by decide +kernel
theorem dX6_as_31 : decode cX6_as 31 = .ok (.iload_n 3, 1) := by decide +kernel
theorem dX6_as_32 : decode cX6_as 32 = .ok (.invokevirtual 102, 3) := by decide +kernel
theorem dX6_as_35 : decode cX6_as 35 = .ok (.ifCond .ne 9, 3) := by decide +kernel
theorem dX6_as_38 : decode cX6_as 38 = .ok (.aload_n 0, 1) := by decide +kernel
theorem dX6_as_39 : decode cX6_as 39 = .ok (.iconst 5, 1) := by decide +kernel
theorem dX6_as_40 : decode cX6_as 40 = .ok (.invokevirtual 78, 3) := by decide +kernel
theorem dX6_as_43 : decode cX6_as 43 = .ok (.ireturn, 1) := by decide +kernel
theorem dX6_as_44 : decode cX6_as 44 = .ok (.aload_n 0, 1) := by decide +kernel
theorem dX6_as_45 : decode cX6_as 45 = .ok (.getfield 10, 3) := by decide +kernel
theorem dX6_as_48 : decode cX6_as 48 = .ok (.getfield 105, 3) := by decide +kernel
theorem dX6_as_51 : decode cX6_as 51 = .ok (.iload_n 3, 1) := by decide +kernel
theorem dX6_as_52 : decode cX6_as 52 = .ok (.aaload, 1) := by decide +kernel
theorem dX6_as_53 : decode cX6_as 53 = .ok (.getfield 109, 3) := by decide +kernel
theorem dX6_as_56 : decode cX6_as 56 = .ok (.iconst 0, 1) := by decide +kernel
theorem dX6_as_57 : decode cX6_as 57 = .ok (.iaload, 1) := by decide +kernel
theorem dX6_as_58 : decode cX6_as 58 = .ok (.iload_n 2, 1) := by decide +kernel
theorem dX6_as_59 : decode cX6_as 59 = .ok (.invokestatic 227, 3) := by decide +kernel
theorem dX6_as_62 : decode cX6_as 62 = .ok (.ifCond .ne 9, 3) := by decide +kernel
theorem dX6_as_65 : decode cX6_as 65 = .ok (.aload_n 0, 1) := by decide +kernel
theorem dX6_as_66 : decode cX6_as 66 = .ok (.iconst 2, 1) := by decide +kernel
theorem dX6_as_67 : decode cX6_as 67 = .ok (.invokevirtual 78, 3) := by decide +kernel
theorem dX6_as_70 : decode cX6_as 70 = .ok (.ireturn, 1) := by decide +kernel
theorem dX6_as_71 : decode cX6_as 71 = .ok (.iload_n 3, 1) := by decide +kernel
theorem dX6_as_72 : decode cX6_as 72 = .ok (.ireturn, 1) := by decide +kernel
theorem dX6_isSheet_0 : decode cX6_isSheet 0 = .ok (.iload_n 0, 1) := by decide +kernel
theorem dX6_isSheet_1 : decode cX6_isSheet 1 = .ok (.iconst 0, 1) := by decide +kernel
theorem dX6_isSheet_2 : decode cX6_isSheet 2 = .ok (.iconst 3, 1) := by decide +kernel
theorem dX6_isSheet_3 : decode cX6_isSheet 3 = .ok (.invokestatic 74, 3) := by decide +kernel
theorem dX6_isSheet_6 : decode cX6_isSheet 6 = .ok (.ireturn, 1) := by decide +kernel
theorem dX6_sheet_0 : decode cX6_sheet 0 = .ok (.iload_n 1, 1) := by decide +kernel
theorem dX6_sheet_1 : decode cX6_sheet 1 = .ok (.invokestatic 272, 3) := by decide +kernel
theorem dX6_sheet_4 : decode cX6_sheet 4 = .ok (.ifCond .eq 25, 3) := by decide +kernel
theorem dX6_sheet_7 : decode cX6_sheet 7 = .ok (.iload_n 2, 1) := by decide +kernel
theorem dX6_sheet_8 : decode cX6_sheet 8 = .ok (.ifCond .eq 27, 3) := by decide +kernel
theorem dX6_sheet_11 : decode cX6_sheet 11 = .ok (.iload_n 2, 1) := by decide +kernel
theorem dX6_sheet_12 : decode cX6_sheet 12 = .ok (.bipush 8, 2) := by decide +kernel
theorem dX6_sheet_14 : decode cX6_sheet 14 = .ok (.if_icmp .eq 21, 3) := by decide +kernel
theorem dX6_sheet_17 : decode cX6_sheet 17 = .ok (.iload_n 2, 1) := by decide +kernel
theorem dX6_sheet_18 : decode cX6_sheet 18 = .ok (.bipush 16, 2) := by decide +kernel
theorem dX6_sheet_20 : decode cX6_sheet 20 = .ok (.if_icmp .eq 15, 3) := by decide +kernel
theorem dX6_sheet_23 : decode cX6_sheet 23 = .ok (.iload_n 2, 1) := by decide +kernel
theorem dX6_sheet_24 : decode cX6_sheet 24 = .ok (.bipush 32, 2) := by decide +kernel
theorem dX6_sheet_26 : decode cX6_sheet 26 = .ok (.if_icmp .eq 9, 3) := by decide +kernel
theorem dX6_sheet_29 : decode cX6_sheet 29 = .ok (.aload_n 0, 1) := by decide +kernel
theorem dX6_sheet_30 : decode cX6_sheet 30 = .ok (.iconst 0, 1) := by decide +kernel
theorem dX6_sheet_31 : decode cX6_sheet 31 = .ok (.invokevirtual 78, 3) := by decide +kernel
theorem dX6_sheet_34 : decode cX6_sheet 34 = .ok (.ireturn, 1) := by decide +kernel
theorem dX6_sheet_35 : decode cX6_sheet 35 = .ok (.iload_n 3, 1) := by decide +kernel
theorem dX6_sheet_36 : decode cX6_sheet 36 = .ok (.ifCond .ge 10, 3) := by decide +kernel
theorem dX6_sheet_39 : decode cX6_sheet 39 = .ok (.aload_n 0, 1) := by decide +kernel
theorem dX6_sheet_40 : decode cX6_sheet 40 = .ok (.bipush 6, 2) := by decide +kernel
theorem dX6_sheet_42 : decode cX6_sheet 42 = .ok (.invokevirtual 78, 3) := by decide +kernel
theorem dX6_sheet_45 : decode cX6_sheet 45 = .ok (.ireturn, 1) := by decide +kernel
theorem dX6_sheet_46 : decode cX6_sheet 46 = .ok (.iload_n 3, 1) := by decide +kernel
theorem dX6_sheet_47 : decode cX6_sheet 47 = .ok (.bipush 40, 2) := by decide +kernel
theorem dX6_sheet_49 : decode cX6_sheet 49 = .ok (.if_icmp .le 9, 3) := by decide +kernel
theorem dX6_sheet_52 : decode cX6_sheet 52 = .ok (.aload_n 0, 1) := by decide +kernel
theorem dX6_sheet_53 : decode cX6_sheet 53 = .ok (.iconst 0, 1) := by decide +kernel
theorem dX6_sheet_54 : decode cX6_sheet 54 = .ok (.invokevirtual 78, 3) := by decide +kernel
theorem dX6_sheet_57 : decode cX6_sheet 57 = .ok (.ireturn, 1) := by decide +kernel
theorem dX6_sheet_58 : decode cX6_sheet 58 = .ok (.aload_n 0, 1) := by decide +kernel
theorem dX6_sheet_59 : decode cX6_sheet 59 = .ok (.getfield 32, 3) := by decide +kernel
theorem dX6_sheet_62 : decode cX6_sheet 62 = .ok (.iload_n 1, 1) := by decide +kernel
theorem dX6_sheet_63 : decode cX6_sheet 63 = .ok (.aaload, 1) := by decide +kernel
theorem dX6_sheet_64 : decode cX6_sheet 64 = .ok (.iload_n 2, 1) := by decide +kernel
theorem dX6_sheet_65 : decode cX6_sheet 65 = .ok (.iload_n 3, 1) := by decide +kernel
theorem dX6_sheet_66 : decode cX6_sheet 66 = .ok (.invokevirtual 275, 3) := by decide +kernel
theorem dX6_sheet_69 : decode cX6_sheet 69 = .ok (.aload_n 0, 1) := by decide +kernel
theorem dX6_sheet_70 : decode cX6_sheet 70 = .ok (.getfield 32, 3) := by decide +kernel
theorem dX6_sheet_73 : decode cX6_sheet 73 = .ok (.iload_n 1, 1) := by decide +kernel
theorem dX6_sheet_74 : decode cX6_sheet 74 = .ok (.aaload, 1) := by decide +kernel
theorem dX6_sheet_75 : decode cX6_sheet 75 = .ok (.getfield 277, 3) := by decide +kernel
theorem dX6_sheet_78 : decode cX6_sheet 78 = .ok (.ireturn, 1) := by decide +kernel
theorem dX6_write_0 : decode cX6_write 0 = .ok (.iload_n 1, 1) := by decide +kernel
theorem dX6_write_1 : decode cX6_write 1 = .ok (.invokestatic 272, 3) := by decide +kernel
theorem dX6_write_4 : decode cX6_write 4 = .ok (.ifCond .ne 9, 3) := by decide +kernel
theorem dX6_write_7 : decode cX6_write 7 = .ok (.aload_n 0, 1) := by decide +kernel
theorem dX6_write_8 : decode cX6_write 8 = .ok (.iconst 0, 1) := by decide +kernel
theorem dX6_write_9 : decode cX6_write 9 = .ok (.invokevirtual 78, 3) := by decide +kernel
theorem dX6_write_12 : decode cX6_write 12 = .ok (.ireturn, 1) := by decide +kernel
theorem dX6_write_13 : decode cX6_write 13 = .ok (.aload_n 0, 1) := by decide +kernel
theorem dX6_write_14 : decode cX6_write 14 = .ok (.getfield 32, 3) := by decide +kernel
theorem dX6_write_17 : decode cX6_write 17 = .ok (.iload_n 1, 1) := by decide +kernel
theorem dX6_write_18 : decode cX6_write 18 = .ok (.aaload, 1) := by decide +kernel
theorem dX6_write_19 : decode cX6_write 19 = .ok (.invokevirtual 278, 3) := by decide +kernel
theorem dX6_write_22 : decode cX6_write 22 = .ok (.ifCond .eq 9, 3) := by decide +kernel
theorem dX6_write_25 : decode cX6_write 25 = .ok (.aload_n 0, 1) := by decide +kernel
theorem dX6_write_26 : decode cX6_write 26 = .ok (.iconst 5, 1) := by decide +kernel
theorem dX6_write_27 : decode cX6_write 27 = .ok (.invokevirtual 78, 3) := by decide +kernel
theorem dX6_write_30 : decode cX6_write 30 = .ok (.ireturn, 1) := by decide +kernel
theorem dX6_write_31 : decode cX6_write 31 = .ok (.iload_n 2, 1) := by decide +kernel
theorem dX6_write_32 : decode cX6_write 32 = .ok (.iconst 0, 1) := by decide +kernel
theorem dX6_write_33 : decode cX6_write 33 = .ok (.aload_n 0, 1) := by decide +kernel
theorem dX6_write_34 : decode cX6_write 34 = .ok (.getfield 32, 3) := by decide +kernel
theorem dX6_write_37 : decode cX6_write 37 = .ok (.iload_n 1, 1) := by decide +kernel
theorem dX6_write_38 : decode cX6_write 38 = .ok (.aaload, 1) := by decide +kernel
theorem dX6_write_39 : decode cX6_write 39 = .ok (.getfield 277, 3) := by decide +kernel
theorem dX6_write_42 : decode cX6_write 42 = .ok (.iconst 1, 1) := by decide +kernel
theorem dX6_write_43 : decode cX6_write 43 = .ok (.isub, 1) := by decide +kernel
theorem dX6_write_44 : decode cX6_write 44 = .ok (.invokestatic 74, 3) := by decide +kernel
theorem dX6_write_47 : decode cX6_write 47 = .ok (.ifCond .ne 9, 3) := by decide +kernel
theorem dX6_write_50 : decode cX6_write 50 = .ok (.aload_n 0, 1) := by decide +kernel
theorem dX6_write_51 : decode cX6_write 51 = .ok (.iconst 0, 1) := by decide +kernel
theorem dX6_write_52 : decode cX6_write 52 = .ok (.invokevirtual 78, 3) := by decide +kernel
theorem dX6_write_55 : decode cX6_write 55 = .ok (.ireturn, 1) := by decide +kernel
theorem dX6_write_56 : decode cX6_write 56 = .ok (.aload_n 0, 1) := by decide +kernel
theorem dX6_write_57 : decode cX6_write 57 = .ok (.getfield 32, 3) := by decide +kernel
theorem dX6_write_60 : decode cX6_write 60 = .ok (.iload_n 1, 1) := by decide +kernel
theorem dX6_write_61 : decode cX6_write 61 = .ok (.aaload, 1) := by decide +kernel
theorem dX6_write_62 : decode cX6_write 62 = .ok (.iload_n 2, 1) := by decide +kernel
theorem dX6_write_63 : decode cX6_write 63 = .ok (.iload_n 3, 1) := by decide +kernel
theorem dX6_write_64 : decode cX6_write 64 = .ok (.invokevirtual 281, 3) := by decide +kernel
theorem dX6_write_67 : decode cX6_write 67 = .ok (.iconst 1, 1) := by decide +kernel
theorem dX6_write_68 : decode cX6_write 68 = .ok (.ireturn, 1) := by decide +kernel
theorem dX6_copy_0 : decode cX6_copy 0 = .ok (.iload_n 1, 1) := by decide +kernel
theorem dX6_copy_1 : decode cX6_copy 1 = .ok (.invokestatic 272, 3) := by decide +kernel
theorem dX6_copy_4 : decode cX6_copy 4 = .ok (.ifCond .eq 10, 3) := by decide +kernel
theorem dX6_copy_7 : decode cX6_copy 7 = .ok (.iload_n 3, 1) := by decide +kernel
theorem dX6_copy_8 : decode cX6_copy 8 = .ok (.invokestatic 272, 3) := by decide +kernel
theorem dX6_copy_11 : decode cX6_copy 11 = .ok (.ifCond .ne 9, 3) := by decide +kernel
theorem dX6_copy_14 : decode cX6_copy 14 = .ok (.aload_n 0, 1) := by decide +kernel
theorem dX6_copy_15 : decode cX6_copy 15 = .ok (.iconst 0, 1) := by decide +kernel
theorem dX6_copy_16 : decode cX6_copy 16 = .ok (.invokevirtual 78, 3) := by decide +kernel
theorem dX6_copy_19 : decode cX6_copy 19 = .ok (.ireturn, 1) := by decide +kernel
theorem dX6_copy_20 : decode cX6_copy 20 = .ok (.aload_n 0, 1) := by decide +kernel
theorem dX6_copy_21 : decode cX6_copy 21 = .ok (.getfield 32, 3) := by decide +kernel
theorem dX6_copy_24 : decode cX6_copy 24 = .ok (.iload_n 1, 1) := by decide +kernel
theorem dX6_copy_25 : decode cX6_copy 25 = .ok (.aaload, 1) := by decide +kernel
theorem dX6_copy_26 : decode cX6_copy 26 = .ok (.invokevirtual 278, 3) := by decide +kernel
theorem dX6_copy_29 : decode cX6_copy 29 = .ok (.ifCond .ne 15, 3) := by decide +kernel
theorem dX6_copy_32 : decode cX6_copy 32 = .ok (.aload_n 0, 1) := by decide +kernel
theorem dX6_copy_33 : decode cX6_copy 33 = .ok (.getfield 32, 3) := by decide +kernel
theorem dX6_copy_36 : decode cX6_copy 36 = .ok (.iload_n 3, 1) := by decide +kernel
theorem dX6_copy_37 : decode cX6_copy 37 = .ok (.aaload, 1) := by decide +kernel
theorem dX6_copy_38 : decode cX6_copy 38 = .ok (.invokevirtual 278, 3) := by decide +kernel
theorem dX6_copy_41 : decode cX6_copy 41 = .ok (.ifCond .eq 9, 3) := by decide +kernel
theorem dX6_copy_44 : decode cX6_copy 44 = .ok (.aload_n 0, 1) := by decide +kernel
theorem dX6_copy_45 : decode cX6_copy 45 = .ok (.iconst 5, 1) := by decide +kernel
theorem dX6_copy_46 : decode cX6_copy 46 = .ok (.invokevirtual 78, 3) := by decide +kernel
theorem dX6_copy_49 : decode cX6_copy 49 = .ok (.ireturn, 1) := by decide +kernel
theorem dX6_copy_50 : decode cX6_copy 50 = .ok (.aload_n 0, 1) := by decide +kernel
theorem dX6_copy_51 : decode cX6_copy 51 = .ok (.getfield 32, 3) := by decide +kernel
theorem dX6_copy_54 : decode cX6_copy 54 = .ok (.iload_n 1, 1) := by decide +kernel
theorem dX6_copy_55 : decode cX6_copy 55 = .ok (.aaload, 1) := by decide +kernel
theorem dX6_copy_56 : decode cX6_copy 56 = .ok (.getfield 284, 3) := by decide +kernel
theorem dX6_copy_59 : decode cX6_copy 59 = .ok (.aload_n 0, 1) := by decide +kernel
theorem dX6_copy_60 : decode cX6_copy 60 = .ok (.getfield 32, 3) := by decide +kernel
theorem dX6_copy_63 : decode cX6_copy 63 = .ok (.iload_n 3, 1) := by decide +kernel
theorem dX6_copy_64 : decode cX6_copy 64 = .ok (.aaload, 1) := by decide +kernel
theorem dX6_copy_65 : decode cX6_copy 65 = .ok (.getfield 284, 3) := by decide +kernel
theorem dX6_copy_68 : decode cX6_copy 68 = .ok (.if_icmp .eq 9, 3) := by decide +kernel
theorem dX6_copy_71 : decode cX6_copy 71 = .ok (.aload_n 0, 1) := by decide +kernel
theorem dX6_copy_72 : decode cX6_copy 72 = .ok (.iconst 2, 1) := by decide +kernel
theorem dX6_copy_73 : decode cX6_copy 73 = .ok (.invokevirtual 78, 3) := by decide +kernel
theorem dX6_copy_76 : decode cX6_copy 76 = .ok (.ireturn, 1) := by decide +kernel
theorem dX6_copy_77 : decode cX6_copy 77 = .ok (.aload_n 0, 1) := by decide +kernel
theorem dX6_copy_78 : decode cX6_copy 78 = .ok (.getfield 32, 3) := by decide +kernel
theorem dX6_copy_81 : decode cX6_copy 81 = .ok (.iload_n 1, 1) := by decide +kernel
theorem dX6_copy_82 : decode cX6_copy 82 = .ok (.aaload, 1) := by decide +kernel
theorem dX6_copy_83 : decode cX6_copy 83 = .ok (.iload_n 2, 1) := by decide +kernel
theorem dX6_copy_84 : decode cX6_copy 84 = .ok (.iload 5, 2) := by decide +kernel
theorem dX6_copy_86 : decode cX6_copy 86 = .ok (.invokevirtual 287, 3) := by decide +kernel
theorem dX6_copy_89 : decode cX6_copy 89 = .ok (.ifCond .eq 19, 3) := by decide +kernel
theorem dX6_copy_92 : decode cX6_copy 92 = .ok (.aload_n 0, 1) := by decide +kernel
theorem dX6_copy_93 : decode cX6_copy 93 = .ok (.getfield 32, 3) := by decide +kernel
theorem dX6_copy_96 : decode cX6_copy 96 = .ok (.iload_n 3, 1) := by decide +kernel
theorem dX6_copy_97 : decode cX6_copy 97 = .ok (.aaload, 1) := by decide +kernel
theorem dX6_copy_98 : decode cX6_copy 98 = .ok (.iload 4, 2) := by decide +kernel
theorem dX6_copy_100 : decode cX6_copy 100 = .ok (.iload 5, 2) := by decide +kernel
theorem dX6_copy_102 : decode cX6_copy 102 = .ok (.invokevirtual 287, 3) := by decide +kernel
theorem dX6_copy_105 : decode cX6_copy 105 = .ok (.ifCond .ne 9, 3) := by decide +kernel
theorem dX6_copy_108 : decode cX6_copy 108 = .ok (.aload_n 0, 1) := by decide +kernel
theorem dX6_copy_109 : decode cX6_copy 109 = .ok (.iconst 0, 1) := by decide +kernel
theorem dX6_copy_110 : decode cX6_copy 110 = .ok (.invokevirtual 78, 3) := by decide +kernel
theorem dX6_copy_113 : decode cX6_copy 113 = .ok (.ireturn, 1) := by decide +kernel
theorem dX6_copy_114 : decode cX6_copy 114 = .ok (.aload_n 0, 1) := by decide +kernel
theorem dX6_copy_115 : decode cX6_copy 115 = .ok (.getfield 32, 3) := by decide +kernel
theorem dX6_copy_118 : decode cX6_copy 118 = .ok (.iload_n 1, 1) := by decide +kernel
theorem dX6_copy_119 : decode cX6_copy 119 = .ok (.aaload, 1) := by decide +kernel
theorem dX6_copy_120 : decode cX6_copy 120 = .ok (.getfield 290, 3) := by decide +kernel
theorem dX6_copy_123 : decode cX6_copy 123 = .ok (.iload_n 2, 1) := by decide +kernel
theorem dX6_copy_124 : decode cX6_copy 124 = .ok (.aload_n 0, 1) := by decide +kernel
theorem dX6_copy_125 : decode cX6_copy 125 = .ok (.getfield 32, 3) := by decide +kernel
theorem dX6_copy_128 : decode cX6_copy 128 = .ok (.iload_n 3, 1) := by decide +kernel
theorem dX6_copy_129 : decode cX6_copy 129 = .ok (.aaload, 1) := by decide +kernel
theorem dX6_copy_130 : decode cX6_copy 130 = .ok (.getfield 290, 3) := by decide +kernel
theorem dX6_copy_133 : decode cX6_copy 133 = .ok (.iload 4, 2) := by decide +kernel
theorem dX6_copy_135 : decode cX6_copy 135 = .ok (.iload 5, 2) := by decide +kernel
theorem dX6_copy_137 : decode cX6_copy 137 = .ok (.invokestatic 208, 3) := by decide +kernel
theorem dX6_copy_140 : decode cX6_copy 140 = .ok (.iload 5, 2) := by decide +kernel
theorem dX6_copy_142 : decode cX6_copy 142 = .ok (.ireturn, 1) := by decide +kernel
theorem dX6_load_0 : decode cX6_load 0 = .ok (.iload_n 1, 1) := by decide +kernel
theorem dX6_load_1 : decode cX6_load 1 = .ok (.invokestatic 272, 3) := by decide +kernel
theorem dX6_load_4 : decode cX6_load 4 = .ok (.ifCond .ne 9, 3) := by decide +kernel
theorem dX6_load_7 : decode cX6_load 7 = .ok (.aload_n 0, 1) := by decide +kernel
theorem dX6_load_8 : decode cX6_load 8 = .ok (.iconst 0, 1) := by decide +kernel
theorem dX6_load_9 : decode cX6_load 9 = .ok (.invokevirtual 78, 3) := by decide +kernel
theorem dX6_load_12 : decode cX6_load 12 = .ok (.ireturn, 1) := by decide +kernel
theorem dX6_load_13 : decode cX6_load 13 = .ok (.aload_n 0, 1) := by decide +kernel
theorem dX6_load_14 : decode cX6_load 14 = .ok (.getfield 32, 3) := by decide +kernel
theorem dX6_load_17 : decode cX6_load 17 = .ok (.iload_n 1, 1) := by decide +kernel
theorem dX6_load_18 : decode cX6_load 18 = .ok (.aaload, 1) := by decide +kernel
theorem dX6_load_19 : decode cX6_load 19 = .ok (.invokevirtual 278, 3) := by decide +kernel
theorem dX6_load_22 : decode cX6_load 22 = .ok (.ifCond .eq 9, 3) := by decide +kernel
theorem dX6_load_25 : decode cX6_load 25 = .ok (.aload_n 0, 1) := by decide +kernel
theorem dX6_load_26 : decode cX6_load 26 = .ok (.iconst 5, 1) := by decide +kernel
theorem dX6_load_27 : decode cX6_load 27 = .ok (.invokevirtual 78, 3) := by decide +kernel
theorem dX6_load_30 : decode cX6_load 30 = .ok (.ireturn, 1) := by decide +kernel
theorem dX6_load_31 : decode cX6_load 31 = .ok (.aload_n 0, 1) := by decide +kernel
theorem dX6_load_32 : decode cX6_load 32 = .ok (.getfield 32, 3) := by decide +kernel
theorem dX6_load_35 : decode cX6_load 35 = .ok (.iload_n 1, 1) := by decide +kernel
theorem dX6_load_36 : decode cX6_load 36 = .ok (.aaload, 1) := by decide +kernel
theorem dX6_load_37 : decode cX6_load 37 = .ok (.getfield 277, 3) := by decide +kernel
theorem dX6_load_40 : decode cX6_load 40 = .ok (.bipush 24, 2) := by decide +kernel
theorem dX6_load_42 : decode cX6_load 42 = .ok (.invokestatic 293, 3) := by decide +kernel
theorem dX6_load_45 : decode cX6_load 45 = .ok (.istore_n 2, 1) := by decide +kernel
theorem dX6_load_46 : decode cX6_load 46 = .ok (.iconst 0, 1) := by decide +kernel
theorem dX6_load_47 : decode cX6_load 47 = .ok (.istore_n 3, 1) := by decide +kernel
theorem dX6_load_48 : decode cX6_load 48 = .ok (.iload_n 3, 1) := by decide +kernel
theorem dX6_load_49 : decode cX6_load 49 = .ok (.iload_n 2, 1) := by decide +kernel
theorem dX6_load_50 : decode cX6_load 50 = .ok (.if_icmp .ge 45, 3) := by decide +kernel
theorem dX6_load_53 : decode cX6_load 53 = .ok (.aload_n 0, 1) := by decide +kernel
theorem dX6_load_54 : decode cX6_load 54 = .ok (.getfield 32, 3) := by decide +kernel
theorem dX6_load_57 : decode cX6_load 57 = .ok (.iload_n 1, 1) := by decide +kernel
theorem dX6_load_58 : decode cX6_load 58 = .ok (.aaload, 1) := by decide +kernel
theorem dX6_load_59 : decode cX6_load 59 = .ok (.getfield 290, 3) := by decide +kernel
theorem dX6_load_62 : decode cX6_load 62 = .ok (.iload_n 3, 1) := by decide +kernel
theorem dX6_load_63 : decode cX6_load 63 = .ok (.iaload, 1) := by decide +kernel
theorem dX6_load_64 : decode cX6_load 64 = .ok (.istore 4, 2) := by decide +kernel
theorem dX6_load_66 : decode cX6_load 66 = .ok (.iload 4, 2) := by decide +kernel
theorem dX6_load_68 : decode cX6_load 68 = .ok (.iconst 0, 1) := by decide +kernel
theorem dX6_load_69 : decode cX6_load 69 = .ok (.iconst 4, 1) := by decide +kernel
theorem dX6_load_70 : decode cX6_load 70 = .ok (.invokestatic 74, 3) := by decide +kernel
theorem dX6_load_73 : decode cX6_load 73 = .ok (.ifCond .ne 5, 3) := by decide +kernel
theorem dX6_load_76 : decode cX6_load 76 = .ok (.iload_n 3, 1) := by decide +kernel
theorem dX6_load_77 : decode cX6_load 77 = .ok (.ireturn, 1) := by decide +kernel
theorem dX6_load_78 : decode cX6_load 78 = .ok (.aload_n 0, 1) := by decide +kernel
theorem dX6_load_79 : decode cX6_load 79 = .ok (.getfield 10, 3) := by decide +kernel
theorem dX6_load_82 : decode cX6_load 82 = .ok (.getfield 85, 3) := by decide +kernel
theorem dX6_load_85 : decode cX6_load 85 = .ok (.iload_n 3, 1) := by decide +kernel
theorem dX6_load_86 : decode cX6_load 86 = .ok (.iload 4, 2) := by decide +kernel
theorem dX6_load_88 : decode cX6_load 88 = .ok (.iastore, 1) := by decide +kernel
theorem dX6_load_89 : decode cX6_load 89 = .ok (.iinc 3 1, 3) := by decide +kernel
theorem dX6_load_92 : decode cX6_load 92 = .ok (.goto (-44), 3) := by decide +kernel
theorem dX6_load_95 : decode cX6_load 95 = .ok (.iload_n 2, 1) := by decide +kernel
theorem dX6_load_96 : decode cX6_load 96 = .ok (.ireturn, 1) := by decide +kernel
theorem dX6_playByHour_0 : decode cX6_playByHour 0 = .ok (.aload_n 0, 1) := by decide +kernel
theorem dX6_playByHour_1 : decode cX6_playByHour 1 = .ok (.getfield 63, 3) := by decide +kernel
theorem dX6_playByHour_4 : decode cX6_playByHour 4 = .ok (.iconst 0, 1) := by decide +kernel
theorem dX6_playByHour_5 : decode cX6_playByHour 5 = .ok (.invokestatic 316, 3) := by decide +kernel
theorem dX6_playByHour_8 : decode cX6_playByHour 8 = .ok (.aload_n 0, 1) := by decide +kernel
theorem dX6_playByHour_9 : decode cX6_playByHour 9 = .ok (.getfield 50, 3) := by decide +kernel
theorem dX6_playByHour_12 : decode cX6_playByHour 12 = .ok (.invokevirtual 175, 3) := by decide +kernel
theorem dX6_playByHour_15 : decode cX6_playByHour 15 = .ok (.iconst 0, 1) := by decide +kernel
theorem dX6_playByHour_16 : decode cX6_playByHour 16 = .ok (.istore_n 2, 1) := by decide +kernel
theorem dX6_playByHour_17 : decode cX6_playByHour 17 = .ok (.iload_n 2, 1) := by decide +kernel
theorem dX6_playByHour_18 : decode cX6_playByHour 18 = .ok (.aload_n 0, 1) := by decide +kernel
theorem dX6_playByHour_19 : decode cX6_playByHour 19 = .ok (.getfield 10, 3) := by decide +kernel
theorem dX6_playByHour_22 : decode cX6_playByHour 22 = .ok (.getfield 178, 3) := by decide +kernel
theorem dX6_playByHour_25 : decode cX6_playByHour 25 = .ok (.if_icmp .ge 83, 3) := by decide +kernel
theorem dX6_playByHour_28 : decode cX6_playByHour 28 = .ok (.aload_n 0, 1) := by decide +kernel
theorem dX6_playByHour_29 : decode cX6_playByHour 29 = .ok (.getfield 43, 3) := by decide +kernel
theorem dX6_playByHour_32 : decode cX6_playByHour 32 = .ok (.aload_n 0, 1) := by decide +kernel
theorem dX6_playByHour_33 : decode cX6_playByHour 33 = .ok (.getfield 10, 3) := by decide +kernel
theorem dX6_playByHour_36 : decode cX6_playByHour 36 = .ok (.getfield 105, 3) := by decide +kernel
theorem dX6_playByHour_39 : decode cX6_playByHour 39 = .ok (.iload_n 2, 1) := by decide +kernel
theorem dX6_playByHour_40 : decode cX6_playByHour 40 = .ok (.aaload, 1) := by decide +kernel
theorem dX6_playByHour_41 : decode cX6_playByHour 41 = .ok (.invokevirtual 191, 3) := by decide +kernel
theorem dX6_playByHour_44 : decode cX6_playByHour 44 = .ok (.iconst 0, 1) := by decide +kernel
theorem dX6_playByHour_45 : decode cX6_playByHour 45 = .ok (.istore_n 3, 1) := by decide +kernel
theorem dX6_playByHour_46 : decode cX6_playByHour 46 = .ok (.iload_n 3, 1) := by decide +kernel
theorem dX6_playByHour_47 : decode cX6_playByHour 47 = .ok (.iload_n 1, 1) := by decide +kernel
theorem dX6_playByHour_48 : decode cX6_playByHour 48 = .ok (.if_icmp .ge 54, 3) := by decide +kernel
theorem dX6_playByHour_51 : decode cX6_playByHour 51 = .ok (.aload_n 0, 1) := by decide +kernel
theorem dX6_playByHour_52 : decode cX6_playByHour 52 = .ok (.getfield 50, 3) := by decide +kernel
theorem dX6_playByHour_55 : decode cX6_playByHour 55 = .ok (.getfield 188, 3) := by decide +kernel
theorem dX6_playByHour_58 : decode cX6_playByHour 58 = .ok (.istore 4, 2) := by decide +kernel
theorem dX6_playByHour_60 : decode cX6_playByHour 60 = .ok (.aload_n 0, 1) := by decide +kernel
theorem dX6_playByHour_61 : decode cX6_playByHour 61 = .ok (.getfield 10, 3) := by decide +kernel
theorem dX6_playByHour_64 : decode cX6_playByHour 64 = .ok (.aload_n 0, 1) := by decide +kernel
theorem dX6_playByHour_65 : decode cX6_playByHour 65 = .ok (.getfield 43, 3) := by decide +kernel
theorem dX6_playByHour_68 : decode cX6_playByHour 68 = .ok (.iload_n 3, 1) := by decide +kernel
theorem dX6_playByHour_69 : decode cX6_playByHour 69 = .ok (.iconst 1, 1) := by decide +kernel
theorem dX6_playByHour_70 : decode cX6_playByHour 70 = .ok (.aload_n 0, 1) := by decide +kernel
theorem dX6_playByHour_71 : decode cX6_playByHour 71 = .ok (.getfield 50, 3) := by decide +kernel
theorem dX6_playByHour_74 : decode cX6_playByHour 74 = .ok (.invokevirtual 181, 3) := by decide +kernel
theorem dX6_playByHour_77 : decode cX6_playByHour 77 = .ok (.aload_n 0, 1) := by decide +kernel
theorem dX6_playByHour_78 : decode cX6_playByHour 78 = .ok (.getfield 63, 3) := by decide +kernel
theorem dX6_playByHour_81 : decode cX6_playByHour 81 = .ok (.iload_n 3, 1) := by decide +kernel
theorem dX6_playByHour_82 : decode cX6_playByHour 82 = .ok (.dup2, 1) := by decide +kernel
theorem dX6_playByHour_83 : decode cX6_playByHour 83 = .ok (.iaload, 1) := by decide +kernel
theorem dX6_playByHour_84 : decode cX6_playByHour 84 = .ok (.aload_n 0, 1) := by decide +kernel
theorem dX6_playByHour_85 : decode cX6_playByHour 85 = .ok (.getfield 50, 3) := by decide +kernel
theorem dX6_playByHour_88 : decode cX6_playByHour 88 = .ok (.getfield 188, 3) := by decide +kernel
theorem dX6_playByHour_91 : decode cX6_playByHour 91 = .ok (.iload 4, 2) := by decide +kernel
theorem dX6_playByHour_93 : decode cX6_playByHour 93 = .ok (.isub, 1) := by decide +kernel
theorem dX6_playByHour_94 : decode cX6_playByHour 94 = .ok (.iadd, 1) := by decide +kernel
theorem dX6_playByHour_95 : decode cX6_playByHour 95 = .ok (.iastore, 1) := by decide +kernel
theorem dX6_playByHour_96 : decode cX6_playByHour 96 = .ok (.iinc 3 1, 3) := by decide +kernel
theorem dX6_playByHour_99 : decode cX6_playByHour 99 = .ok (.goto (-53), 3) := by decide +kernel
theorem dX6_playByHour_102 : decode cX6_playByHour 102 = .ok (.iinc 2 1, 3) := by decide +kernel
theorem dX6_playByHour_105 : decode cX6_playByHour 105 = .ok (.goto (-88), 3) := by decide +kernel
theorem dX6_playByHour_108 : decode cX6_playByHour 108 = .ok (.return_, 1) := by decide +kernel
theorem dX6_judge_0 : decode cX6_judge 0 = .ok (.iload_n 1, 1) := by decide +kernel
theorem dX6_judge_1 : decode cX6_judge 1 = .ok (.invokestatic 272, 3) := by decide +kernel
theorem dX6_judge_4 : decode cX6_judge 4 = .ok (.ifCond .ne 9, 3) := by decide +kernel
theorem dX6_judge_7 : decode cX6_judge 7 = .ok (.aload_n 0, 1) := by decide +kernel
theorem dX6_judge_8 : decode cX6_judge 8 = .ok (.iconst 0, 1) := by decide +kernel
theorem dX6_judge_9 : decode cX6_judge 9 = .ok (.invokevirtual 78, 3) := by decide +kernel
theorem dX6_judge_12 : decode cX6_judge 12 = .ok (.ireturn, 1) := by decide +kernel
theorem dX6_judge_13 : decode cX6_judge 13 = .ok (.aload_n 0, 1) := by decide +kernel
theorem dX6_judge_14 : decode cX6_judge 14 = .ok (.getfield 32, 3) := by decide +kernel
theorem dX6_judge_17 : decode cX6_judge 17 = .ok (.iload_n 1, 1) := by decide +kernel
theorem dX6_judge_18 : decode cX6_judge 18 = .ok (.aaload, 1) := by decide +kernel
theorem dX6_judge_19 : decode cX6_judge 19 = .ok (.invokevirtual 278, 3) := by decide +kernel
theorem dX6_judge_22 : decode cX6_judge 22 = .ok (.ifCond .eq 9, 3) := by decide +kernel
theorem dX6_judge_25 : decode cX6_judge 25 = .ok (.aload_n 0, 1) := by decide +kernel
theorem dX6_judge_26 : decode cX6_judge 26 = .ok (.iconst 5, 1) := by decide +kernel
theorem dX6_judge_27 : decode cX6_judge 27 = .ok (.invokevirtual 78, 3) := by decide +kernel
theorem dX6_judge_30 : decode cX6_judge 30 = .ok (.ireturn, 1) := by decide +kernel
theorem dX6_judge_31 : decode cX6_judge 31 = .ok (.aload_n 0, 1) := by decide +kernel
theorem dX6_judge_32 : decode cX6_judge 32 = .ok (.getfield 32, 3) := by decide +kernel
theorem dX6_judge_35 : decode cX6_judge 35 = .ok (.iload_n 1, 1) := by decide +kernel
theorem dX6_judge_36 : decode cX6_judge 36 = .ok (.aaload, 1) := by decide +kernel
theorem dX6_judge_37 : decode cX6_judge 37 = .ok (.getfield 277, 3) := by decide +kernel
theorem dX6_judge_40 : decode cX6_judge 40 = .ok (.istore_n 2, 1) := by decide +kernel
theorem dX6_judge_41 : decode cX6_judge 41 = .ok (.aload_n 0, 1) := by decide +kernel
theorem dX6_judge_42 : decode cX6_judge 42 = .ok (.iload_n 2, 1) := by decide +kernel
theorem dX6_judge_43 : decode cX6_judge 43 = .ok (.invokevirtual 172, 3) := by decide +kernel
theorem dX6_judge_46 : decode cX6_judge 46 = .ok (.ifCond .ne 9, 3) := by decide +kernel
theorem dX6_judge_49 : decode cX6_judge 49 = .ok (.aload_n 0, 1) := by decide +kernel
theorem dX6_judge_50 : decode cX6_judge 50 = .ok (.iconst 4, 1) := by decide +kernel
theorem dX6_judge_51 : decode cX6_judge 51 = .ok (.invokevirtual 78, 3) := by decide +kernel
theorem dX6_judge_54 : decode cX6_judge 54 = .ok (.ireturn, 1) := by decide +kernel
theorem dX6_judge_55 : decode cX6_judge 55 = .ok (.aload_n 0, 1) := by decide +kernel
theorem dX6_judge_56 : decode cX6_judge 56 = .ok (.iload_n 2, 1) := by decide +kernel
theorem dX6_judge_57 : decode cX6_judge 57 = .ok (.invokevirtual 296, 3) := by decide +kernel
theorem dX6_judge_60 : decode cX6_judge 60 = .ok (.iconst 0, 1) := by decide +kernel
theorem dX6_judge_61 : decode cX6_judge 61 = .ok (.istore_n 3, 1) := by decide +kernel
theorem dX6_judge_62 : decode cX6_judge 62 = .ok (.iload_n 3, 1) := by decide +kernel
theorem dX6_judge_63 : decode cX6_judge 63 = .ok (.iload_n 2, 1) := by decide +kernel
theorem dX6_judge_64 : decode cX6_judge 64 = .ok (.if_icmp .ge 33, 3) := by decide +kernel
theorem dX6_judge_67 : decode cX6_judge 67 = .ok (.aload_n 0, 1) := by decide +kernel
theorem dX6_judge_68 : decode cX6_judge 68 = .ok (.getfield 32, 3) := by decide +kernel
theorem dX6_judge_71 : decode cX6_judge 71 = .ok (.iload_n 1, 1) := by decide +kernel
theorem dX6_judge_72 : decode cX6_judge 72 = .ok (.aaload, 1) := by decide +kernel
theorem dX6_judge_73 : decode cX6_judge 73 = .ok (.getfield 290, 3) := by decide +kernel
theorem dX6_judge_76 : decode cX6_judge 76 = .ok (.iload_n 3, 1) := by decide +kernel
theorem dX6_judge_77 : decode cX6_judge 77 = .ok (.iaload, 1) := by decide +kernel
theorem dX6_judge_78 : decode cX6_judge 78 = .ok (.aload_n 0, 1) := by decide +kernel
theorem dX6_judge_79 : decode cX6_judge 79 = .ok (.getfield 63, 3) := by decide +kernel
theorem dX6_judge_82 : decode cX6_judge 82 = .ok (.iload_n 3, 1) := by decide +kernel
theorem dX6_judge_83 : decode cX6_judge 83 = .ok (.iaload, 1) := by decide +kernel
theorem dX6_judge_84 : decode cX6_judge 84 = .ok (.if_icmp .eq 7, 3) := by decide +kernel
theorem dX6_judge_87 : decode cX6_judge 87 = .ok (.iconst 1, 1) := by decide +kernel
theorem dX6_judge_88 : decode cX6_judge 88 = .ok (.iload_n 3, 1) := by decide +kernel
theorem dX6_judge_89 : decode cX6_judge 89 = .ok (.iadd, 1) := by decide +kernel
theorem dX6_judge_90 : decode cX6_judge 90 = .ok (.ireturn, 1) := by decide +kernel
theorem dX6_judge_91 : decode cX6_judge 91 = .ok (.iinc 3 1, 3) := by decide +kernel
theorem dX6_judge_94 : decode cX6_judge 94 = .ok (.goto (-32), 3) := by decide +kernel
theorem dX6_judge_97 : decode cX6_judge 97 = .ok (.iconst 0, 1) := by decide +kernel
theorem dX6_judge_98 : decode cX6_judge 98 = .ok (.ireturn, 1) := by decide +kernel
theorem dX6_image_0 : decode cX6_image 0 = .ok (.aload_n 0, 1) := by decide +kernel
theorem dX6_image_1 : decode cX6_image 1 = .ok (.getfield 16, 3) := by decide +kernel
theorem dX6_image_4 : decode cX6_image 4 = .ok (.aload_n 0, 1) := by decide +kernel
theorem dX6_image_5 : decode cX6_image 5 = .ok (.getfield 10, 3) := by decide +kernel
theorem dX6_image_8 : decode cX6_image 8 = .ok (.invokevirtual 300, 3) := by decide +kernel
theorem dX6_image_11 : decode cX6_image 11 = .ok (.aload_n 0, 1) := by decide +kernel
theorem dX6_image_12 : decode cX6_image 12 = .ok (.iconst 1, 1) := by decide +kernel
theorem dX6_image_13 : decode cX6_image 13 = .ok (.putfield 19, 3) := by decide +kernel
theorem dX6_image_16 : decode cX6_image 16 = .ok (.iconst 1, 1) := by decide +kernel
theorem dX6_image_17 : decode cX6_image 17 = .ok (.ireturn, 1) := by decide +kernel
theorem dX6_undo_0 : decode cX6_undo 0 = .ok (.aload_n 0, 1) := by decide +kernel
theorem dX6_undo_1 : decode cX6_undo 1 = .ok (.getfield 19, 3) := by decide +kernel
theorem dX6_undo_4 : decode cX6_undo 4 = .ok (.ifCond .ne 9, 3) := by decide +kernel
theorem dX6_undo_7 : decode cX6_undo 7 = .ok (.aload_n 0, 1) := by decide +kernel
theorem dX6_undo_8 : decode cX6_undo 8 = .ok (.iconst 3, 1) := by decide +kernel
theorem dX6_undo_9 : decode cX6_undo 9 = .ok (.invokevirtual 78, 3) := by decide +kernel
theorem dX6_undo_12 : decode cX6_undo 12 = .ok (.ireturn, 1) := by decide +kernel
theorem dX6_undo_13 : decode cX6_undo 13 = .ok (.aload_n 0, 1) := by decide +kernel
theorem dX6_undo_14 : decode cX6_undo 14 = .ok (.getfield 10, 3) := by decide +kernel
theorem dX6_undo_17 : decode cX6_undo 17 = .ok (.aload_n 0, 1) := by decide +kernel
theorem dX6_undo_18 : decode cX6_undo 18 = .ok (.getfield 16, 3) := by decide +kernel
theorem dX6_undo_21 : decode cX6_undo 21 = .ok (.invokevirtual 300, 3) := by decide +kernel
theorem dX6_undo_24 : decode cX6_undo 24 = .ok (.aload_n 0, 1) := by decide +kernel
theorem dX6_undo_25 : decode cX6_undo 25 = .ok (.getfield 10, 3) := by decide +kernel
theorem dX6_undo_28 : decode cX6_undo 28 = .ok (.getfield 119, 3) := by decide +kernel
theorem dX6_undo_31 : decode cX6_undo 31 = .ok (.ireturn, 1) := by decide +kernel
theorem dX6_tear_0 : decode cX6_tear 0 = .ok (.aload_n 0, 1) := by decide +kernel
theorem dX6_tear_1 : decode cX6_tear 1 = .ok (.getfield 19, 3) := by decide +kernel
theorem dX6_tear_4 : decode cX6_tear 4 = .ok (.ifCond .eq 7, 3) := by decide +kernel
theorem dX6_tear_7 : decode cX6_tear 7 = .ok (.iconst 1, 1) := by decide +kernel
theorem dX6_tear_8 : decode cX6_tear 8 = .ok (.goto 4, 3) := by decide +kernel
theorem dX6_tear_11 : decode cX6_tear 11 = .ok (.iconst 0, 1) := by decide +kernel
theorem dX6_tear_12 : decode cX6_tear 12 = .ok (.istore_n 1, 1) := by decide +kernel
theorem dX6_tear_13 : decode cX6_tear 13 = .ok (.aload_n 0, 1) := by decide +kernel
theorem dX6_tear_14 : decode cX6_tear 14 = .ok (.iconst 0, 1) := by decide +kernel
theorem dX6_tear_15 : decode cX6_tear 15 = .ok (.putfield 19, 3) := by decide +kernel
theorem dX6_tear_18 : decode cX6_tear 18 = .ok (.iload_n 1, 1) := by decide +kernel
theorem dX6_tear_19 : decode cX6_tear 19 = .ok (.ireturn, 1) := by decide +kernel
theorem dX6_notBelowZero_0 : decode cX6_notBelowZero 0 = .ok (.iconst 0, 1) := by decide +kernel
theorem dX6_notBelowZero_1 : decode cX6_notBelowZero 1 = .ok (.istore_n 1, 1) := by decide +kernel
theorem dX6_notBelowZero_2 : decode cX6_notBelowZero 2 = .ok (.iconst 0, 1) := by decide +kernel
theorem dX6_notBelowZero_3 : decode cX6_notBelowZero 3 = .ok (.istore_n 2, 1) := by decide +kernel
theorem dX6_notBelowZero_4 : decode cX6_notBelowZero 4 = .ok (.iload_n 2, 1) := by decide +kernel
theorem dX6_notBelowZero_5 : decode cX6_notBelowZero 5 = .ok (.aload_n 0, 1) := by decide +kernel
theorem dX6_notBelowZero_6 : decode cX6_notBelowZero 6 = .ok (.arraylength, 1) := by decide +kernel
theorem dX6_notBelowZero_7 : decode cX6_notBelowZero 7 = .ok (.if_icmp .ge 23, 3) := by decide +kernel
theorem dX6_notBelowZero_10 : decode cX6_notBelowZero 10 = .ok (.iload_n 1, 1) := by decide +kernel
theorem dX6_notBelowZero_11 : decode cX6_notBelowZero 11 = .ok (.aload_n 0, 1) := by decide +kernel
theorem dX6_notBelowZero_12 : decode cX6_notBelowZero 12 = .ok (.iload_n 2, 1) := by decide +kernel
theorem dX6_notBelowZero_13 : decode cX6_notBelowZero 13 = .ok (.iaload, 1) := by decide +kernel
theorem dX6_notBelowZero_14 : decode cX6_notBelowZero 14 = .ok (.ifCond .lt 7, 3) := by decide +kernel
theorem dX6_notBelowZero_17 : decode cX6_notBelowZero 17 = .ok (.iconst 1, 1) := by decide +kernel
theorem dX6_notBelowZero_18 : decode cX6_notBelowZero 18 = .ok (.goto 4, 3) := by decide +kernel
theorem dX6_notBelowZero_21 : decode cX6_notBelowZero 21 = .ok (.iconst 0, 1) := by decide +kernel
theorem dX6_notBelowZero_22 : decode cX6_notBelowZero 22 = .ok (.iadd, 1) := by decide +kernel
theorem dX6_notBelowZero_23 : decode cX6_notBelowZero 23 = .ok (.istore_n 1, 1) := by decide +kernel
theorem dX6_notBelowZero_24 : decode cX6_notBelowZero 24 = .ok (.iinc 2 1, 3) := by decide +kernel
theorem dX6_notBelowZero_27 : decode cX6_notBelowZero 27 = .ok (.goto (-23), 3) := by decide +kernel
theorem dX6_notBelowZero_30 : decode cX6_notBelowZero 30 = .ok (.iload_n 1, 1) := by decide +kernel
theorem dX6_notBelowZero_31 : decode cX6_notBelowZero 31 = .ok (.ireturn, 1) := by decide +kernel
theorem dX6_count_0 : decode cX6_count 0 = .ok (.iload_n 1, 1) := by decide +kernel
theorem dX6_count_1 : decode cX6_count 1 = .ok (.tableswitch 118 0 7 #[47, 55, 63, 74, 81, 88, 99, 107], 47) := by decide +kernel
theorem dX6_count_48 : decode cX6_count 48 = .ok (.aload_n 0, 1) := by decide +kernel
theorem dX6_count_49 : decode cX6_count 49 = .ok (.getfield 10, 3) := by decide +kernel
theorem dX6_count_52 : decode cX6_count 52 = .ok (.getfield 119, 3) := by decide +kernel
theorem dX6_count_55 : decode cX6_count 55 = .ok (.ireturn, 1) := by decide +kernel
theorem dX6_count_56 : decode cX6_count 56 = .ok (.aload_n 0, 1) := by decide +kernel
theorem dX6_count_57 : decode cX6_count 57 = .ok (.getfield 10, 3) := by decide +kernel
theorem dX6_count_60 : decode cX6_count 60 = .ok (.getfield 178, 3) := by decide +kernel
theorem dX6_count_63 : decode cX6_count 63 = .ok (.ireturn, 1) := by decide +kernel
theorem dX6_count_64 : decode cX6_count 64 = .ok (.aload_n 0, 1) := by decide +kernel
theorem dX6_count_65 : decode cX6_count 65 = .ok (.getfield 10, 3) := by decide +kernel
theorem dX6_count_68 : decode cX6_count 68 = .ok (.getfield 82, 3) := by decide +kernel
theorem dX6_count_71 : decode cX6_count 71 = .ok (.invokestatic 303, 3) := by decide +kernel
theorem dX6_count_74 : decode cX6_count 74 = .ok (.ireturn, 1) := by decide +kernel
theorem dX6_count_75 : decode cX6_count 75 = .ok (.aload_n 0, 1) := by decide +kernel
theorem dX6_count_76 : decode cX6_count 76 = .ok (.iconst (-1), 1) := by decide +kernel
theorem dX6_count_77 : decode cX6_count 77 = .ok (.iconst (-1), 1) := by decide +kernel
theorem dX6_count_78 : decode cX6_count 78 = .ok (.invokevirtual 307, 3) := by decide +kernel
theorem dX6_count_81 : decode cX6_count 81 = .ok (.ireturn, 1) := by decide +kernel
theorem dX6_count_82 : decode cX6_count 82 = .ok (.aload_n 0, 1) := by decide +kernel
theorem dX6_count_83 : decode cX6_count 83 = .ok (.iconst (-1), 1) := by decide +kernel
theorem dX6_count_84 : decode cX6_count 84 = .ok (.iconst (-1), 1) := by decide +kernel
theorem dX6_count_85 : decode cX6_count 85 = .ok (.invokevirtual 310, 3) := by decide +kernel
theorem dX6_count_88 : decode cX6_count 88 = .ok (.ireturn, 1) := by decide +kernel
theorem dX6_count_89 : decode cX6_count 89 = .ok (.aload_n 0, 1) := by decide +kernel
theorem dX6_count_90 : decode cX6_count 90 = .ok (.getfield 26, 3) := by decide +kernel
theorem dX6_count_93 : decode cX6_count 93 = .ok (.getfield 244, 3) := by decide +kernel
theorem dX6_count_96 : decode cX6_count 96 = .ok (.getfield 248, 3) := by decide +kernel
theorem dX6_count_99 : decode cX6_count 99 = .ok (.ireturn, 1) := by decide +kernel
theorem dX6_count_100 : decode cX6_count 100 = .ok (.aload_n 0, 1) := by decide +kernel
theorem dX6_count_101 : decode cX6_count 101 = .ok (.getfield 10, 3) := by decide +kernel
theorem dX6_count_104 : decode cX6_count 104 = .ok (.getfield 241, 3) := by decide +kernel
theorem dX6_count_107 : decode cX6_count 107 = .ok (.ireturn, 1) := by decide +kernel
theorem dX6_count_108 : decode cX6_count 108 = .ok (.aload_n 0, 1) := by decide +kernel
theorem dX6_count_109 : decode cX6_count 109 = .ok (.getfield 10, 3) := by decide +kernel
theorem dX6_count_112 : decode cX6_count 112 = .ok (.getfield 269, 3) := by decide +kernel
theorem dX6_count_115 : decode cX6_count 115 = .ok (.invokestatic 303, 3) := by decide +kernel
theorem dX6_count_118 : decode cX6_count 118 = .ok (.ireturn, 1) := by decide +kernel
theorem dX6_count_119 : decode cX6_count 119 = .ok (.aload_n 0, 1) := by decide +kernel
theorem dX6_count_120 : decode cX6_count 120 = .ok (.iconst 0, 1) := by decide +kernel
theorem dX6_count_121 : decode cX6_count 121 = .ok (.invokevirtual 78, 3) := by decide +kernel
theorem dX6_count_124 : decode cX6_count 124 = .ok (.ireturn, 1) := by decide +kernel
theorem dX6_status_0 : decode cX6_status 0 = .ok (.iload_n 1, 1) := by decide +kernel
theorem dX6_status_1 : decode cX6_status 1 = .ok (.iconst (-1), 1) := by decide +kernel
theorem dX6_status_2 : decode cX6_status 2 = .ok (.bipush 6, 2) := by decide +kernel
theorem dX6_status_4 : decode cX6_status 4 = .ok (.invokestatic 74, 3) := by decide +kernel
theorem dX6_status_7 : decode cX6_status 7 = .ok (.ifCond .ne 9, 3) := by decide +kernel
theorem dX6_status_10 : decode cX6_status 10 = .ok (.aload_n 0, 1) := by decide +kernel
theorem dX6_status_11 : decode cX6_status 11 = .ok (.iconst 0, 1) := by decide +kernel
theorem dX6_status_12 : decode cX6_status 12 = .ok (.invokevirtual 78, 3) := by decide +kernel
theorem dX6_status_15 : decode cX6_status 15 = .ok (.ireturn, 1) := by decide +kernel
theorem dX6_status_16 : decode cX6_status 16 = .ok (.iload_n 1, 1) := by decide +kernel
theorem dX6_status_17 : decode cX6_status 17 = .ok (.ifCond .lt 10, 3) := by decide +kernel
theorem dX6_status_20 : decode cX6_status 20 = .ok (.aload_n 0, 1) := by decide +kernel
theorem dX6_status_21 : decode cX6_status 21 = .ok (.getfield 36, 3) := by decide +kernel
theorem dX6_status_24 : decode cX6_status 24 = .ok (.iload_n 1, 1) := by decide +kernel
theorem dX6_status_25 : decode cX6_status 25 = .ok (.iaload, 1) := by decide +kernel
theorem dX6_status_26 : decode cX6_status 26 = .ok (.ireturn, 1) := by decide +kernel
theorem dX6_status_27 : decode cX6_status 27 = .ok (.iconst 0, 1) := by decide +kernel
theorem dX6_status_28 : decode cX6_status 28 = .ok (.istore_n 2, 1) := by decide +kernel
theorem dX6_status_29 : decode cX6_status 29 = .ok (.iconst 0, 1) := by decide +kernel
theorem dX6_status_30 : decode cX6_status 30 = .ok (.istore_n 3, 1) := by decide +kernel
theorem dX6_status_31 : decode cX6_status 31 = .ok (.iload_n 3, 1) := by decide +kernel
theorem dX6_status_32 : decode cX6_status 32 = .ok (.bipush 7, 2) := by decide +kernel
theorem dX6_status_34 : decode cX6_status 34 = .ok (.if_icmp .ge 18, 3) := by decide +kernel
theorem dX6_status_37 : decode cX6_status 37 = .ok (.iload_n 2, 1) := by decide +kernel
theorem dX6_status_38 : decode cX6_status 38 = .ok (.aload_n 0, 1) := by decide +kernel
theorem dX6_status_39 : decode cX6_status 39 = .ok (.getfield 36, 3) := by decide +kernel
theorem dX6_status_42 : decode cX6_status 42 = .ok (.iload_n 3, 1) := by decide +kernel
theorem dX6_status_43 : decode cX6_status 43 = .ok (.iaload, 1) := by decide +kernel
theorem dX6_status_44 : decode cX6_status 44 = .ok (.iadd, 1) := by decide +kernel
theorem dX6_status_45 : decode cX6_status 45 = .ok (.istore_n 2, 1) := by decide +kernel
theorem dX6_status_46 : decode cX6_status 46 = .ok (.iinc 3 1, 3) := by decide +kernel
theorem dX6_status_49 : decode cX6_status 49 = .ok (.goto (-18), 3) := by decide +kernel
theorem dX6_status_52 : decode cX6_status 52 = .ok (.iload_n 2, 1) := by decide +kernel
theorem dX6_status_53 : decode cX6_status 53 = .ok (.ireturn, 1) := by decide +kernel
