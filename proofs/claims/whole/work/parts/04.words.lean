/-! the words of the tables that the methods use; fields; new objects (printed by wip/whole/gen.py) -/
theorem w_0 : Cond.selects RX6 yX6_finding yX6_finding ∈ lw_g := lw_g_of (List.mem_of_getElem? (i := 0) (by decide +kernel)) rfl
theorem w_1 : Cond.selects RX6 yX6_isChimney yX6_isChimney ∈ lw_g := lw_g_of (List.mem_of_getElem? (i := 1) (by decide +kernel)) rfl
theorem w_2 : Cond.selects RX6 yX6_isChimneyOrAll yX6_isChimneyOrAll ∈ lw_g := lw_g_of (List.mem_of_getElem? (i := 2) (by decide +kernel)) rfl
theorem w_3 : Cond.selects RX6 yX6_lastOf yX6_lastOf ∈ lw_g := lw_g_of (List.mem_of_getElem? (i := 3) (by decide +kernel)) rfl
theorem w_4 : Cond.selects RX6 yX6_hasHours yX6_hasHours ∈ lw_g := lw_g_of (List.mem_of_getElem? (i := 4) (by decide +kernel)) rfl
theorem w_5 : Cond.selects RX6 yX6_richest yX6_richest ∈ lw_g := lw_g_of (List.mem_of_getElem? (i := 5) (by decide +kernel)) rfl
theorem w_6 : Cond.selects RX6 yX6_playWith yX6_playWith ∈ lw_g := lw_g_of (List.mem_of_getElem? (i := 6) (by decide +kernel)) rfl
theorem w_7 : Cond.selects RX6 yX6_playCosts yX6_playCosts ∈ lw_g := lw_g_of (List.mem_of_getElem? (i := 7) (by decide +kernel)) rfl
theorem w_8 : Cond.selects RX6 yX6_addCosts yX6_addCosts ∈ lw_g := lw_g_of (List.mem_of_getElem? (i := 8) (by decide +kernel)) rfl
theorem w_9 : Cond.selects RX6 yX6_playDirt yX6_playDirt ∈ lw_g := lw_g_of (List.mem_of_getElem? (i := 9) (by decide +kernel)) rfl
theorem w_10 : Cond.selects RX6 yX6_fireOf yX6_fireOf ∈ lw_g := lw_g_of (List.mem_of_getElem? (i := 10) (by decide +kernel)) rfl
theorem w_11 : Cond.selects RX6 yX6_dirtWith yX6_dirtWith ∈ lw_g := lw_g_of (List.mem_of_getElem? (i := 11) (by decide +kernel)) rfl
theorem w_12 : Cond.selects RX6 yX6_playAlone yX6_playAlone ∈ lw_g := lw_g_of (List.mem_of_getElem? (i := 12) (by decide +kernel)) rfl
theorem w_13 : Cond.selects RX6 yX6_playByHour yX6_playByHour ∈ lw_g := lw_g_of (List.mem_of_getElem? (i := 13) (by decide +kernel)) rfl
theorem w_14 : Cond.selects RX7 yX7_finds yX7_finds ∈ lw_g := lw_g_of (List.mem_of_getElem? (i := 14) (by decide +kernel)) rfl
theorem w_15 : Cond.selects RX7 yX7_newChimney yX7_newChimney ∈ lw_g := lw_g_of (List.mem_of_getElem? (i := 15) (by decide +kernel)) rfl
theorem w_16 : Cond.selects RX7 yX7_isChimney yX7_isChimney ∈ lw_g := lw_g_of (List.mem_of_getElem? (i := 16) (by decide +kernel)) rfl
theorem w_17 : Cond.selects RX7 yX7_its yX7_its ∈ lw_g := lw_g_of (List.mem_of_getElem? (i := 17) (by decide +kernel)) rfl
theorem w_18 : Cond.selects RX7 yX7_worth yX7_worth ∈ lw_g := lw_g_of (List.mem_of_getElem? (i := 18) (by decide +kernel)) rfl
theorem w_19 : Cond.selects RX7 yX7_sooty yX7_sooty ∈ lw_g := lw_g_of (List.mem_of_getElem? (i := 19) (by decide +kernel)) rfl
theorem w_20 : Cond.selects RX7 yX7_burns yX7_burns ∈ lw_g := lw_g_of (List.mem_of_getElem? (i := 20) (by decide +kernel)) rfl
theorem w_21 : Cond.selects RX7 yX7_isLit yX7_isLit ∈ lw_g := lw_g_of (List.mem_of_getElem? (i := 21) (by decide +kernel)) rfl
theorem w_22 : Cond.selects RX7 yX7_burnsAt yX7_burnsAt ∈ lw_g := lw_g_of (List.mem_of_getElem? (i := 22) (by decide +kernel)) rfl
theorem w_23 : Cond.selects RX7 yX7_sums yX7_sums ∈ lw_g := lw_g_of (List.mem_of_getElem? (i := 23) (by decide +kernel)) rfl
theorem w_24 : Cond.selects RX7 yX7_isTooFar yX7_isTooFar ∈ lw_g := lw_g_of (List.mem_of_getElem? (i := 24) (by decide +kernel)) rfl
theorem w_25 : Cond.selects RX7 yX7_hoursGo yX7_hoursGo ∈ lw_g := lw_g_of (List.mem_of_getElem? (i := 25) (by decide +kernel)) rfl
theorem w_26 : Cond.selects RX7 yX7_hour yX7_hour ∈ lw_g := lw_g_of (List.mem_of_getElem? (i := 26) (by decide +kernel)) rfl
theorem w_27 : Cond.selects RX7 yX7_goes yX7_goes ∈ lw_g := lw_g_of (List.mem_of_getElem? (i := 27) (by decide +kernel)) rfl
theorem w_28 : Cond.selects RX7 yX7_settles yX7_settles ∈ lw_g := lw_g_of (List.mem_of_getElem? (i := 28) (by decide +kernel)) rfl
theorem w_29 : Cond.selects RX7 yX7_puts yX7_puts ∈ lw_g := lw_g_of (List.mem_of_getElem? (i := 29) (by decide +kernel)) rfl
theorem w_30 : Cond.selects RX7 yX7_allOf yX7_allOf ∈ lw_g := lw_g_of (List.mem_of_getElem? (i := 30) (by decide +kernel)) rfl
theorem w_31 : Cond.selects RX7 yX7_putsBack yX7_putsBack ∈ lw_g := lw_g_of (List.mem_of_getElem? (i := 31) (by decide +kernel)) rfl
theorem w_32 : Cond.selects RX7 yX7_bestPart yX7_bestPart ∈ lw_g := lw_g_of (List.mem_of_getElem? (i := 32) (by decide +kernel)) rfl
theorem w_33 : Cond.selects RX7 yX7_bookBehind yX7_bookBehind ∈ lw_g := lw_g_of (List.mem_of_getElem? (i := 33) (by decide +kernel)) rfl
theorem w_34 : Cond.selects RX7 yX7_dirtIn yX7_dirtIn ∈ lw_g := lw_g_of (List.mem_of_getElem? (i := 34) (by decide +kernel)) rfl
theorem w_35 : Cond.selects RX7 yX7_isUnder yX7_isUnder ∈ lw_g := lw_g_of (List.mem_of_getElem? (i := 35) (by decide +kernel)) rfl
theorem w_36 : Cond.selects RX7 yX7_next yX7_next ∈ lw_g := lw_g_of (List.mem_of_getElem? (i := 36) (by decide +kernel)) rfl
theorem w_37 : Cond.selects RX7 yX7_token yX7_token ∈ lw_g := lw_g_of (List.mem_of_getElem? (i := 37) (by decide +kernel)) rfl
theorem w_38 : Cond.selects RX7 yX7_byteAt yX7_byteAt ∈ lw_g := lw_g_of (List.mem_of_getElem? (i := 38) (by decide +kernel)) rfl
theorem w_39 : Cond.selects RX7 yX7_item yX7_item ∈ lw_g := lw_g_of (List.mem_of_getElem? (i := 39) (by decide +kernel)) rfl
theorem w_40 : Cond.selects RX7 yX7_kindHere yX7_kindHere ∈ lw_g := lw_g_of (List.mem_of_getElem? (i := 40) (by decide +kernel)) rfl
theorem w_41 : Cond.selects RX7 yX7_word yX7_word ∈ lw_g := lw_g_of (List.mem_of_getElem? (i := 41) (by decide +kernel)) rfl
theorem w_42 : Cond.selects RX7 yX7_chimneyItem yX7_chimneyItem ∈ lw_g := lw_g_of (List.mem_of_getElem? (i := 42) (by decide +kernel)) rfl
theorem w_43 : Cond.selects RX7 yX7_needs yX7_needs ∈ lw_g := lw_g_of (List.mem_of_getElem? (i := 43) (by decide +kernel)) rfl
theorem w_44 : Cond.selects RX7 yX7_number yX7_number ∈ lw_g := lw_g_of (List.mem_of_getElem? (i := 44) (by decide +kernel)) rfl
theorem w_45 : Cond.selects RX7 yX7_perhaps yX7_perhaps ∈ lw_g := lw_g_of (List.mem_of_getElem? (i := 45) (by decide +kernel)) rfl
theorem w_46 : Cond.selects RX7 yX7_roofItem yX7_roofItem ∈ lw_g := lw_g_of (List.mem_of_getElem? (i := 46) (by decide +kernel)) rfl
theorem w_47 : Cond.selects RX7 yX7_windItem yX7_windItem ∈ lw_g := lw_g_of (List.mem_of_getElem? (i := 47) (by decide +kernel)) rfl
theorem w_48 : Cond.selects RX7 yX7_wrong yX7_wrong ∈ lw_g := lw_g_of (List.mem_of_getElem? (i := 48) (by decide +kernel)) rfl
theorem w_50 : Cond.initialized RX6 ∈ lw_g := lw_g_of (List.mem_of_getElem? (i := 50) (by decide +kernel)) rfl
theorem w_51 : Cond.initialized RX5 ∈ lw_g := lw_g_of (List.mem_of_getElem? (i := 51) (by decide +kernel)) rfl
theorem w_52 : Cond.initialized RJ7 ∈ lw_g := lw_g_of (List.mem_of_getElem? (i := 52) (by decide +kernel)) rfl
theorem w_53 : Cond.initialized RX0 ∈ lw_g := lw_g_of (List.mem_of_getElem? (i := 53) (by decide +kernel)) rfl
theorem w_54 : Cond.initialized RX1 ∈ lw_g := lw_g_of (List.mem_of_getElem? (i := 54) (by decide +kernel)) rfl
theorem w_55 : Cond.initialized RX4 ∈ lw_g := lw_g_of (List.mem_of_getElem? (i := 55) (by decide +kernel)) rfl
theorem w_56 : Cond.initialized RX3 ∈ lw_g := lw_g_of (List.mem_of_getElem? (i := 56) (by decide +kernel)) rfl
theorem w_57 : Cond.initialized RX2 ∈ lw_g := lw_g_of (List.mem_of_getElem? (i := 57) (by decide +kernel)) rfl
theorem w_58 : Cond.initialized RX7 ∈ lw_g := lw_g_of (List.mem_of_getElem? (i := 58) (by decide +kernel)) rfl
theorem w_59 : Cond.initialized RJ9 ∈ lw_g := lw_g_of (List.mem_of_getElem? (i := 59) (by decide +kernel)) rfl
theorem w_60 : Cond.initialized RJ10 ∈ lw_g := lw_g_of (List.mem_of_getElem? (i := 60) (by decide +kernel)) rfl
theorem w_61 : Cond.initialized RJ0 ∈ lw_g := lw_g_of (List.mem_of_getElem? (i := 61) (by decide +kernel)) rfl
theorem w_62 : Cond.initialized RJ1 ∈ lw_g := lw_g_of (List.mem_of_getElem? (i := 62) (by decide +kernel)) rfl
theorem w_63 : Cond.initialized RJ3 ∈ lw_g := lw_g_of (List.mem_of_getElem? (i := 63) (by decide +kernel)) rfl
theorem w_65 : Cond.classLink RL 7 RX6 ∈ lw_g := lw_g_of (List.mem_of_getElem? (i := 65) (by decide +kernel)) rfl
theorem w_66 : Cond.instantiable RX6 13 ∈ lw_g := lw_g_of (List.mem_of_getElem? (i := 66) (by decide +kernel)) rfl
theorem w_67 : Cond.methodLink RL 9 yX6_init ∈ lw_g := lw_g_of (List.mem_of_getElem? (i := 67) (by decide +kernel)) rfl
theorem w_68 : Cond.instanceMethod yX6_init ∈ lw_g := lw_g_of (List.mem_of_getElem? (i := 68) (by decide +kernel)) rfl
theorem w_69 : Cond.code yX6_init cX6_init 2 none ∈ lw_g := lw_g_of (List.mem_of_getElem? (i := 69) (by decide +kernel)) rfl
theorem w_70 : Cond.methodLink RX6 1 Lib.objectInit ∈ lw_g := lw_g_of (List.mem_of_getElem? (i := 70) (by decide +kernel)) rfl
theorem w_71 : Cond.instanceMethod Lib.objectInit ∈ lw_g := lw_g_of (List.mem_of_getElem? (i := 71) (by decide +kernel)) rfl
theorem w_72 : Cond.code Lib.objectInit ⟨#[0xb1]⟩ 1 none ∈ lw_g := lw_g_of (List.mem_of_getElem? (i := 72) (by decide +kernel)) rfl
theorem w_73 : Cond.classLink RX6 7 RX5 ∈ lw_g := lw_g_of (List.mem_of_getElem? (i := 73) (by decide +kernel)) rfl
theorem w_74 : Cond.instantiable RX5 8 ∈ lw_g := lw_g_of (List.mem_of_getElem? (i := 74) (by decide +kernel)) rfl
theorem w_75 : Cond.methodLink RX6 9 yX5_init ∈ lw_g := lw_g_of (List.mem_of_getElem? (i := 75) (by decide +kernel)) rfl
theorem w_76 : Cond.instanceMethod yX5_init ∈ lw_g := lw_g_of (List.mem_of_getElem? (i := 76) (by decide +kernel)) rfl
theorem w_77 : Cond.code yX5_init cX5_init 2 none ∈ lw_g := lw_g_of (List.mem_of_getElem? (i := 77) (by decide +kernel)) rfl
theorem w_78 : Cond.methodLink RX5 3 Lib.objectInit ∈ lw_g := lw_g_of (List.mem_of_getElem? (i := 78) (by decide +kernel)) rfl
theorem w_79 : Cond.classLink RX5 34 RX0 ∈ lw_g := lw_g_of (List.mem_of_getElem? (i := 79) (by decide +kernel)) rfl
theorem w_81 : Cond.methodLink RX5 40 yJ7_fill_53178 ∈ lw_g := lw_g_of (List.mem_of_getElem? (i := 81) (by decide +kernel)) rfl
theorem w_82 : Cond.static yJ7_fill_53178 ∈ lw_g := lw_g_of (List.mem_of_getElem? (i := 82) (by decide +kernel)) rfl
theorem w_83 : Cond.code yJ7_fill_53178 cJ7_fill_53178 4 none ∈ lw_g := lw_g_of (List.mem_of_getElem? (i := 83) (by decide +kernel)) rfl
theorem w_84 : Cond.instantiable RX0 6 ∈ lw_g := lw_g_of (List.mem_of_getElem? (i := 84) (by decide +kernel)) rfl
theorem w_86 : Cond.instanceMethod yX0_init ∈ lw_g := lw_g_of (List.mem_of_getElem? (i := 86) (by decide +kernel)) rfl
theorem w_87 : Cond.code yX0_init cX0_init 1 none ∈ lw_g := lw_g_of (List.mem_of_getElem? (i := 87) (by decide +kernel)) rfl
theorem w_88 : Cond.methodLink RX0 3 Lib.objectInit ∈ lw_g := lw_g_of (List.mem_of_getElem? (i := 88) (by decide +kernel)) rfl
theorem w_89 : Cond.fieldLink RX0 9 RX0 "traits" "[I" ∈ lw_g := lw_g_of (List.mem_of_getElem? (i := 89) (by decide +kernel)) rfl
theorem w_90 : Cond.fieldLink RX6 109 RX0 "traits" "[I" ∈ lw_g := lw_g_of (List.mem_of_getElem? (i := 90) (by decide +kernel)) rfl
theorem w_91 : Cond.fieldLink RX1 117 RX0 "traits" "[I" ∈ lw_g := lw_g_of (List.mem_of_getElem? (i := 91) (by decide +kernel)) rfl
theorem w_92 : Cond.fieldLink RX0 15 RX0 "aloft" "[I" ∈ lw_g := lw_g_of (List.mem_of_getElem? (i := 92) (by decide +kernel)) rfl
theorem w_93 : Cond.fieldLink RX5 61 RX0 "aloft" "[I" ∈ lw_g := lw_g_of (List.mem_of_getElem? (i := 93) (by decide +kernel)) rfl
theorem w_94 : Cond.fieldLink RX6 150 RX0 "aloft" "[I" ∈ lw_g := lw_g_of (List.mem_of_getElem? (i := 94) (by decide +kernel)) rfl
theorem w_95 : Cond.fieldLink RX0 18 RX0 "soot" "[I" ∈ lw_g := lw_g_of (List.mem_of_getElem? (i := 95) (by decide +kernel)) rfl
theorem w_96 : Cond.fieldLink RX6 157 RX0 "soot" "[I" ∈ lw_g := lw_g_of (List.mem_of_getElem? (i := 96) (by decide +kernel)) rfl
theorem w_97 : Cond.fieldLink RX0 21 RX0 "gone" "I" ∈ lw_g := lw_g_of (List.mem_of_getElem? (i := 97) (by decide +kernel)) rfl
theorem w_98 : Cond.fieldLink RX6 160 RX0 "gone" "I" ∈ lw_g := lw_g_of (List.mem_of_getElem? (i := 98) (by decide +kernel)) rfl
theorem w_99 : Cond.fieldLink RX0 25 RX0 "cameDown" "I" ∈ lw_g := lw_g_of (List.mem_of_getElem? (i := 99) (by decide +kernel)) rfl
theorem w_100 : Cond.fieldLink RX6 163 RX0 "cameDown" "I" ∈ lw_g := lw_g_of (List.mem_of_getElem? (i := 100) (by decide +kernel)) rfl
theorem w_101 : Cond.fieldLink RX0 28 RX0 "burnt" "I" ∈ lw_g := lw_g_of (List.mem_of_getElem? (i := 101) (by decide +kernel)) rfl
theorem w_102 : Cond.fieldLink RX6 166 RX0 "burnt" "I" ∈ lw_g := lw_g_of (List.mem_of_getElem? (i := 102) (by decide +kernel)) rfl
theorem w_103 : Cond.laysFinal RX0 RX0 "traits" "[I" ∈ lw_g := lw_g_of (List.mem_of_getElem? (i := 103) (by decide +kernel)) rfl
theorem w_105 : Cond.laysFinal RX0 RX0 "aloft" "[I" ∈ lw_g := lw_g_of (List.mem_of_getElem? (i := 105) (by decide +kernel)) rfl
theorem w_107 : Cond.laysFinal RX0 RX0 "soot" "[I" ∈ lw_g := lw_g_of (List.mem_of_getElem? (i := 107) (by decide +kernel)) rfl
theorem w_109 : Cond.lays RX0 RX0 "gone" "I" ∈ lw_g := lw_g_of (List.mem_of_getElem? (i := 109) (by decide +kernel)) rfl
theorem w_111 : Cond.lays RX0 RX0 "cameDown" "I" ∈ lw_g := lw_g_of (List.mem_of_getElem? (i := 111) (by decide +kernel)) rfl
theorem w_113 : Cond.lays RX0 RX0 "burnt" "I" ∈ lw_g := lw_g_of (List.mem_of_getElem? (i := 113) (by decide +kernel)) rfl
theorem w_116 : Cond.arrayClass .int ∈ lw_g := lw_g_of (List.mem_of_getElem? (i := 116) (by decide +kernel)) rfl
theorem w_117 : Cond.fieldLink RX5 9 RX5 "hour" "I" ∈ lw_g := lw_g_of (List.mem_of_getElem? (i := 117) (by decide +kernel)) rfl
theorem w_118 : Cond.fieldLink RX6 119 RX5 "hour" "I" ∈ lw_g := lw_g_of (List.mem_of_getElem? (i := 118) (by decide +kernel)) rfl
theorem w_119 : Cond.fieldLink RX5 15 RX5 "z" "I" ∈ lw_g := lw_g_of (List.mem_of_getElem? (i := 119) (by decide +kernel)) rfl
theorem w_120 : Cond.fieldLink RX6 241 RX5 "z" "I" ∈ lw_g := lw_g_of (List.mem_of_getElem? (i := 120) (by decide +kernel)) rfl
theorem w_121 : Cond.fieldLink RX5 18 RX5 "chimneyCount" "I" ∈ lw_g := lw_g_of (List.mem_of_getElem? (i := 121) (by decide +kernel)) rfl
theorem w_122 : Cond.fieldLink RX1 26 RX5 "chimneyCount" "I" ∈ lw_g := lw_g_of (List.mem_of_getElem? (i := 122) (by decide +kernel)) rfl
theorem w_123 : Cond.fieldLink RX6 178 RX5 "chimneyCount" "I" ∈ lw_g := lw_g_of (List.mem_of_getElem? (i := 123) (by decide +kernel)) rfl
theorem w_124 : Cond.fieldLink RX5 21 RX5 "roofs" "[I" ∈ lw_g := lw_g_of (List.mem_of_getElem? (i := 124) (by decide +kernel)) rfl
theorem w_125 : Cond.fieldLink RX6 82 RX5 "roofs" "[I" ∈ lw_g := lw_g_of (List.mem_of_getElem? (i := 125) (by decide +kernel)) rfl
theorem w_126 : Cond.fieldLink RX1 83 RX5 "roofs" "[I" ∈ lw_g := lw_g_of (List.mem_of_getElem? (i := 126) (by decide +kernel)) rfl
theorem w_127 : Cond.fieldLink RX5 25 RX5 "winds" "[I" ∈ lw_g := lw_g_of (List.mem_of_getElem? (i := 127) (by decide +kernel)) rfl
theorem w_128 : Cond.fieldLink RX6 85 RX5 "winds" "[I" ∈ lw_g := lw_g_of (List.mem_of_getElem? (i := 128) (by decide +kernel)) rfl
theorem w_129 : Cond.fieldLink RX1 87 RX5 "winds" "[I" ∈ lw_g := lw_g_of (List.mem_of_getElem? (i := 129) (by decide +kernel)) rfl
theorem w_130 : Cond.fieldLink RX5 28 RX5 "books" "[I" ∈ lw_g := lw_g_of (List.mem_of_getElem? (i := 130) (by decide +kernel)) rfl
theorem w_131 : Cond.fieldLink RX6 132 RX5 "books" "[I" ∈ lw_g := lw_g_of (List.mem_of_getElem? (i := 131) (by decide +kernel)) rfl
theorem w_132 : Cond.fieldLink RX5 31 RX5 "spots" "[I" ∈ lw_g := lw_g_of (List.mem_of_getElem? (i := 132) (by decide +kernel)) rfl
theorem w_133 : Cond.fieldLink RX6 269 RX5 "spots" "[I" ∈ lw_g := lw_g_of (List.mem_of_getElem? (i := 133) (by decide +kernel)) rfl
theorem w_134 : Cond.fieldLink RX5 36 RX5 "chimneys" "[LSmokeRoofs$Chimney;" ∈ lw_g := lw_g_of (List.mem_of_getElem? (i := 134) (by decide +kernel)) rfl
theorem w_135 : Cond.fieldLink RX6 105 RX5 "chimneys" "[LSmokeRoofs$Chimney;" ∈ lw_g := lw_g_of (List.mem_of_getElem? (i := 135) (by decide +kernel)) rfl
theorem w_136 : Cond.fieldLink RX1 109 RX5 "chimneys" "[LSmokeRoofs$Chimney;" ∈ lw_g := lw_g_of (List.mem_of_getElem? (i := 136) (by decide +kernel)) rfl
theorem w_137 : Cond.lays RX5 RX5 "hour" "I" ∈ lw_g := lw_g_of (List.mem_of_getElem? (i := 137) (by decide +kernel)) rfl
theorem w_139 : Cond.lays RX5 RX5 "z" "I" ∈ lw_g := lw_g_of (List.mem_of_getElem? (i := 139) (by decide +kernel)) rfl
theorem w_141 : Cond.lays RX5 RX5 "chimneyCount" "I" ∈ lw_g := lw_g_of (List.mem_of_getElem? (i := 141) (by decide +kernel)) rfl
theorem w_143 : Cond.laysFinal RX5 RX5 "roofs" "[I" ∈ lw_g := lw_g_of (List.mem_of_getElem? (i := 143) (by decide +kernel)) rfl
theorem w_145 : Cond.laysFinal RX5 RX5 "winds" "[I" ∈ lw_g := lw_g_of (List.mem_of_getElem? (i := 145) (by decide +kernel)) rfl
theorem w_147 : Cond.laysFinal RX5 RX5 "books" "[I" ∈ lw_g := lw_g_of (List.mem_of_getElem? (i := 147) (by decide +kernel)) rfl
theorem w_149 : Cond.laysFinal RX5 RX5 "spots" "[I" ∈ lw_g := lw_g_of (List.mem_of_getElem? (i := 149) (by decide +kernel)) rfl
theorem w_151 : Cond.laysFinal RX5 RX5 "chimneys" "[LSmokeRoofs$Chimney;" ∈ lw_g := lw_g_of (List.mem_of_getElem? (i := 151) (by decide +kernel)) rfl
theorem w_154 : Cond.classLink RX6 23 RX1 ∈ lw_g := lw_g_of (List.mem_of_getElem? (i := 154) (by decide +kernel)) rfl
theorem w_155 : Cond.instantiable RX1 3 ∈ lw_g := lw_g_of (List.mem_of_getElem? (i := 155) (by decide +kernel)) rfl
theorem w_157 : Cond.instanceMethod yX1_init ∈ lw_g := lw_g_of (List.mem_of_getElem? (i := 157) (by decide +kernel)) rfl
theorem w_158 : Cond.code yX1_init cX1_init 1 none ∈ lw_g := lw_g_of (List.mem_of_getElem? (i := 158) (by decide +kernel)) rfl
theorem w_159 : Cond.methodLink RX1 3 Lib.objectInit ∈ lw_g := lw_g_of (List.mem_of_getElem? (i := 159) (by decide +kernel)) rfl
theorem w_160 : Cond.classLink RX1 9 RX4 ∈ lw_g := lw_g_of (List.mem_of_getElem? (i := 160) (by decide +kernel)) rfl
theorem w_161 : Cond.instantiable RX4 6 ∈ lw_g := lw_g_of (List.mem_of_getElem? (i := 161) (by decide +kernel)) rfl
theorem w_163 : Cond.instanceMethod yX4_init ∈ lw_g := lw_g_of (List.mem_of_getElem? (i := 163) (by decide +kernel)) rfl
theorem w_164 : Cond.code yX4_init cX4_init 1 none ∈ lw_g := lw_g_of (List.mem_of_getElem? (i := 164) (by decide +kernel)) rfl
theorem w_165 : Cond.methodLink RX4 3 Lib.objectInit ∈ lw_g := lw_g_of (List.mem_of_getElem? (i := 165) (by decide +kernel)) rfl
theorem w_166 : Cond.fieldLink RX4 9 RX4 "bytes" "[I" ∈ lw_g := lw_g_of (List.mem_of_getElem? (i := 166) (by decide +kernel)) rfl
theorem w_167 : Cond.fieldLink RX6 253 RX4 "bytes" "[I" ∈ lw_g := lw_g_of (List.mem_of_getElem? (i := 167) (by decide +kernel)) rfl
theorem w_168 : Cond.fieldLink RX4 15 RX4 "length" "I" ∈ lw_g := lw_g_of (List.mem_of_getElem? (i := 168) (by decide +kernel)) rfl
theorem w_169 : Cond.fieldLink RX6 248 RX4 "length" "I" ∈ lw_g := lw_g_of (List.mem_of_getElem? (i := 169) (by decide +kernel)) rfl
theorem w_170 : Cond.fieldLink RX4 19 RX4 "fault" "I" ∈ lw_g := lw_g_of (List.mem_of_getElem? (i := 170) (by decide +kernel)) rfl
theorem w_171 : Cond.fieldLink RX6 263 RX4 "fault" "I" ∈ lw_g := lw_g_of (List.mem_of_getElem? (i := 171) (by decide +kernel)) rfl
theorem w_172 : Cond.fieldLink RX4 22 RX4 "sort" "I" ∈ lw_g := lw_g_of (List.mem_of_getElem? (i := 172) (by decide +kernel)) rfl
theorem w_173 : Cond.fieldLink RX1 42 RX4 "sort" "I" ∈ lw_g := lw_g_of (List.mem_of_getElem? (i := 173) (by decide +kernel)) rfl
theorem w_174 : Cond.fieldLink RX4 25 RX4 "start" "I" ∈ lw_g := lw_g_of (List.mem_of_getElem? (i := 174) (by decide +kernel)) rfl
theorem w_175 : Cond.fieldLink RX4 28 RX4 "place" "I" ∈ lw_g := lw_g_of (List.mem_of_getElem? (i := 175) (by decide +kernel)) rfl
theorem w_176 : Cond.laysFinal RX4 RX4 "bytes" "[I" ∈ lw_g := lw_g_of (List.mem_of_getElem? (i := 176) (by decide +kernel)) rfl
theorem w_178 : Cond.lays RX4 RX4 "length" "I" ∈ lw_g := lw_g_of (List.mem_of_getElem? (i := 178) (by decide +kernel)) rfl
theorem w_180 : Cond.lays RX4 RX4 "fault" "I" ∈ lw_g := lw_g_of (List.mem_of_getElem? (i := 180) (by decide +kernel)) rfl
theorem w_182 : Cond.lays RX4 RX4 "sort" "I" ∈ lw_g := lw_g_of (List.mem_of_getElem? (i := 182) (by decide +kernel)) rfl
theorem w_184 : Cond.lays RX4 RX4 "start" "I" ∈ lw_g := lw_g_of (List.mem_of_getElem? (i := 184) (by decide +kernel)) rfl
theorem w_186 : Cond.lays RX4 RX4 "place" "I" ∈ lw_g := lw_g_of (List.mem_of_getElem? (i := 186) (by decide +kernel)) rfl
theorem w_189 : Cond.fieldLink RX1 12 RX1 "tape" "LSmokeRoofs$Tape;" ∈ lw_g := lw_g_of (List.mem_of_getElem? (i := 189) (by decide +kernel)) rfl
theorem w_190 : Cond.fieldLink RX6 244 RX1 "tape" "LSmokeRoofs$Tape;" ∈ lw_g := lw_g_of (List.mem_of_getElem? (i := 190) (by decide +kernel)) rfl
theorem w_191 : Cond.fieldLink RX1 18 RX1 "isSure" "Z" ∈ lw_g := lw_g_of (List.mem_of_getElem? (i := 191) (by decide +kernel)) rfl
theorem w_192 : Cond.fieldLink RX1 22 RX1 "chimneysTold" "I" ∈ lw_g := lw_g_of (List.mem_of_getElem? (i := 192) (by decide +kernel)) rfl
theorem w_193 : Cond.laysFinal RX1 RX1 "tape" "LSmokeRoofs$Tape;" ∈ lw_g := lw_g_of (List.mem_of_getElem? (i := 193) (by decide +kernel)) rfl
theorem w_195 : Cond.lays RX1 RX1 "isSure" "Z" ∈ lw_g := lw_g_of (List.mem_of_getElem? (i := 195) (by decide +kernel)) rfl
theorem w_197 : Cond.lays RX1 RX1 "chimneysTold" "I" ∈ lw_g := lw_g_of (List.mem_of_getElem? (i := 197) (by decide +kernel)) rfl
theorem w_200 : Cond.classLink RX6 30 RX2 ∈ lw_g := lw_g_of (List.mem_of_getElem? (i := 200) (by decide +kernel)) rfl
theorem w_202 : Cond.classLink RX6 40 RX0 ∈ lw_g := lw_g_of (List.mem_of_getElem? (i := 202) (by decide +kernel)) rfl
theorem w_204 : Cond.classLink RX6 47 RX3 ∈ lw_g := lw_g_of (List.mem_of_getElem? (i := 204) (by decide +kernel)) rfl
theorem w_205 : Cond.instantiable RX3 4 ∈ lw_g := lw_g_of (List.mem_of_getElem? (i := 205) (by decide +kernel)) rfl
theorem w_207 : Cond.instanceMethod yX3_init ∈ lw_g := lw_g_of (List.mem_of_getElem? (i := 207) (by decide +kernel)) rfl
theorem w_208 : Cond.code yX3_init cX3_init 1 none ∈ lw_g := lw_g_of (List.mem_of_getElem? (i := 208) (by decide +kernel)) rfl
theorem w_209 : Cond.methodLink RX3 3 Lib.objectInit ∈ lw_g := lw_g_of (List.mem_of_getElem? (i := 209) (by decide +kernel)) rfl
theorem w_210 : Cond.fieldLink RX3 9 RX3 "settled" "I" ∈ lw_g := lw_g_of (List.mem_of_getElem? (i := 210) (by decide +kernel)) rfl
theorem w_211 : Cond.fieldLink RX6 188 RX3 "settled" "I" ∈ lw_g := lw_g_of (List.mem_of_getElem? (i := 211) (by decide +kernel)) rfl
theorem w_212 : Cond.fieldLink RX3 15 RX3 "coins" "[I" ∈ lw_g := lw_g_of (List.mem_of_getElem? (i := 212) (by decide +kernel)) rfl
theorem w_213 : Cond.fieldLink RX6 185 RX3 "coins" "[I" ∈ lw_g := lw_g_of (List.mem_of_getElem? (i := 213) (by decide +kernel)) rfl
theorem w_214 : Cond.fieldLink RX3 19 RX3 "onRoofs" "[I" ∈ lw_g := lw_g_of (List.mem_of_getElem? (i := 214) (by decide +kernel)) rfl
theorem w_215 : Cond.fieldLink RX6 198 RX3 "onRoofs" "[I" ∈ lw_g := lw_g_of (List.mem_of_getElem? (i := 215) (by decide +kernel)) rfl
theorem w_216 : Cond.fieldLink RX3 22 RX3 "dirt" "[I" ∈ lw_g := lw_g_of (List.mem_of_getElem? (i := 216) (by decide +kernel)) rfl
theorem w_217 : Cond.fieldLink RX6 195 RX3 "dirt" "[I" ∈ lw_g := lw_g_of (List.mem_of_getElem? (i := 217) (by decide +kernel)) rfl
theorem w_218 : Cond.lays RX3 RX3 "settled" "I" ∈ lw_g := lw_g_of (List.mem_of_getElem? (i := 218) (by decide +kernel)) rfl
theorem w_220 : Cond.laysFinal RX3 RX3 "coins" "[I" ∈ lw_g := lw_g_of (List.mem_of_getElem? (i := 220) (by decide +kernel)) rfl
theorem w_222 : Cond.laysFinal RX3 RX3 "onRoofs" "[I" ∈ lw_g := lw_g_of (List.mem_of_getElem? (i := 222) (by decide +kernel)) rfl
theorem w_224 : Cond.laysFinal RX3 RX3 "dirt" "[I" ∈ lw_g := lw_g_of (List.mem_of_getElem? (i := 224) (by decide +kernel)) rfl
theorem w_227 : Cond.instantiable RX2 3 ∈ lw_g := lw_g_of (List.mem_of_getElem? (i := 227) (by decide +kernel)) rfl
theorem w_229 : Cond.instanceMethod yX2_init ∈ lw_g := lw_g_of (List.mem_of_getElem? (i := 229) (by decide +kernel)) rfl
theorem w_230 : Cond.code yX2_init cX2_init 1 none ∈ lw_g := lw_g_of (List.mem_of_getElem? (i := 230) (by decide +kernel)) rfl
theorem w_231 : Cond.methodLink RX2 3 Lib.objectInit ∈ lw_g := lw_g_of (List.mem_of_getElem? (i := 231) (by decide +kernel)) rfl
theorem w_232 : Cond.fieldLink RX2 9 RX2 "bits" "I" ∈ lw_g := lw_g_of (List.mem_of_getElem? (i := 232) (by decide +kernel)) rfl
theorem w_233 : Cond.fieldLink RX6 284 RX2 "bits" "I" ∈ lw_g := lw_g_of (List.mem_of_getElem? (i := 233) (by decide +kernel)) rfl
theorem w_234 : Cond.fieldLink RX2 15 RX2 "length" "I" ∈ lw_g := lw_g_of (List.mem_of_getElem? (i := 234) (by decide +kernel)) rfl
theorem w_235 : Cond.fieldLink RX6 277 RX2 "length" "I" ∈ lw_g := lw_g_of (List.mem_of_getElem? (i := 235) (by decide +kernel)) rfl
theorem w_236 : Cond.fieldLink RX2 18 RX2 "numbers" "[I" ∈ lw_g := lw_g_of (List.mem_of_getElem? (i := 236) (by decide +kernel)) rfl
theorem w_237 : Cond.fieldLink RX6 290 RX2 "numbers" "[I" ∈ lw_g := lw_g_of (List.mem_of_getElem? (i := 237) (by decide +kernel)) rfl
theorem w_238 : Cond.lays RX2 RX2 "bits" "I" ∈ lw_g := lw_g_of (List.mem_of_getElem? (i := 238) (by decide +kernel)) rfl
theorem w_240 : Cond.lays RX2 RX2 "length" "I" ∈ lw_g := lw_g_of (List.mem_of_getElem? (i := 240) (by decide +kernel)) rfl
theorem w_242 : Cond.laysFinal RX2 RX2 "numbers" "[I" ∈ lw_g := lw_g_of (List.mem_of_getElem? (i := 242) (by decide +kernel)) rfl
theorem w_245 : Cond.fieldLink RX6 10 RX6 "town" "LSmokeRoofs$Town;" ∈ lw_g := lw_g_of (List.mem_of_getElem? (i := 245) (by decide +kernel)) rfl
theorem w_246 : Cond.fieldLink RX6 16 RX6 "kept" "LSmokeRoofs$Town;" ∈ lw_g := lw_g_of (List.mem_of_getElem? (i := 246) (by decide +kernel)) rfl
theorem w_247 : Cond.fieldLink RX6 19 RX6 "isKept" "Z" ∈ lw_g := lw_g_of (List.mem_of_getElem? (i := 247) (by decide +kernel)) rfl
theorem w_248 : Cond.fieldLink RX6 26 RX6 "reader" "LSmokeRoofs$Reader;" ∈ lw_g := lw_g_of (List.mem_of_getElem? (i := 248) (by decide +kernel)) rfl
theorem w_249 : Cond.fieldLink RX6 32 RX6 "sheets" "[LSmokeRoofs$Sheet;" ∈ lw_g := lw_g_of (List.mem_of_getElem? (i := 249) (by decide +kernel)) rfl
theorem w_250 : Cond.fieldLink RX6 36 RX6 "findings" "[I" ∈ lw_g := lw_g_of (List.mem_of_getElem? (i := 250) (by decide +kernel)) rfl
theorem w_251 : Cond.fieldLink RX6 43 RX6 "trial" "LSmokeRoofs$Chimney;" ∈ lw_g := lw_g_of (List.mem_of_getElem? (i := 251) (by decide +kernel)) rfl
theorem w_252 : Cond.fieldLink RX6 50 RX6 "tally" "LSmokeRoofs$Tally;" ∈ lw_g := lw_g_of (List.mem_of_getElem? (i := 252) (by decide +kernel)) rfl
theorem w_253 : Cond.fieldLink RX6 54 RX6 "coinsBefore" "[I" ∈ lw_g := lw_g_of (List.mem_of_getElem? (i := 253) (by decide +kernel)) rfl
theorem w_254 : Cond.fieldLink RX6 57 RX6 "dirtLit" "[I" ∈ lw_g := lw_g_of (List.mem_of_getElem? (i := 254) (by decide +kernel)) rfl
theorem w_255 : Cond.fieldLink RX6 60 RX6 "dirtOut" "[I" ∈ lw_g := lw_g_of (List.mem_of_getElem? (i := 255) (by decide +kernel)) rfl
theorem w_256 : Cond.fieldLink RX6 63 RX6 "settledByHour" "[I" ∈ lw_g := lw_g_of (List.mem_of_getElem? (i := 256) (by decide +kernel)) rfl
theorem w_257 : Cond.fieldLink RX6 66 RX6 "costs" "[I" ∈ lw_g := lw_g_of (List.mem_of_getElem? (i := 257) (by decide +kernel)) rfl
theorem w_258 : Cond.laysFinal RX6 RX6 "town" "LSmokeRoofs$Town;" ∈ lw_g := lw_g_of (List.mem_of_getElem? (i := 258) (by decide +kernel)) rfl
theorem w_260 : Cond.laysFinal RX6 RX6 "kept" "LSmokeRoofs$Town;" ∈ lw_g := lw_g_of (List.mem_of_getElem? (i := 260) (by decide +kernel)) rfl
theorem w_262 : Cond.lays RX6 RX6 "isKept" "Z" ∈ lw_g := lw_g_of (List.mem_of_getElem? (i := 262) (by decide +kernel)) rfl
theorem w_264 : Cond.laysFinal RX6 RX6 "reader" "LSmokeRoofs$Reader;" ∈ lw_g := lw_g_of (List.mem_of_getElem? (i := 264) (by decide +kernel)) rfl
theorem w_266 : Cond.laysFinal RX6 RX6 "sheets" "[LSmokeRoofs$Sheet;" ∈ lw_g := lw_g_of (List.mem_of_getElem? (i := 266) (by decide +kernel)) rfl
theorem w_268 : Cond.laysFinal RX6 RX6 "findings" "[I" ∈ lw_g := lw_g_of (List.mem_of_getElem? (i := 268) (by decide +kernel)) rfl
theorem w_270 : Cond.laysFinal RX6 RX6 "trial" "LSmokeRoofs$Chimney;" ∈ lw_g := lw_g_of (List.mem_of_getElem? (i := 270) (by decide +kernel)) rfl
theorem w_272 : Cond.laysFinal RX6 RX6 "tally" "LSmokeRoofs$Tally;" ∈ lw_g := lw_g_of (List.mem_of_getElem? (i := 272) (by decide +kernel)) rfl
theorem w_274 : Cond.laysFinal RX6 RX6 "coinsBefore" "[I" ∈ lw_g := lw_g_of (List.mem_of_getElem? (i := 274) (by decide +kernel)) rfl
theorem w_276 : Cond.laysFinal RX6 RX6 "dirtLit" "[I" ∈ lw_g := lw_g_of (List.mem_of_getElem? (i := 276) (by decide +kernel)) rfl
theorem w_278 : Cond.laysFinal RX6 RX6 "dirtOut" "[I" ∈ lw_g := lw_g_of (List.mem_of_getElem? (i := 278) (by decide +kernel)) rfl
theorem w_280 : Cond.laysFinal RX6 RX6 "settledByHour" "[I" ∈ lw_g := lw_g_of (List.mem_of_getElem? (i := 280) (by decide +kernel)) rfl
theorem w_282 : Cond.laysFinal RX6 RX6 "costs" "[I" ∈ lw_g := lw_g_of (List.mem_of_getElem? (i := 282) (by decide +kernel)) rfl
theorem w_285 : Cond.methodLink RL 13 yX6_roof ∈ lw_g := lw_g_of (List.mem_of_getElem? (i := 285) (by decide +kernel)) rfl
theorem w_286 : Cond.instanceMethod yX6_roof ∈ lw_g := lw_g_of (List.mem_of_getElem? (i := 286) (by decide +kernel)) rfl
theorem w_287 : Cond.selects RX6 yX6_roof yX6_roof ∈ lw_g := lw_g_of (List.mem_of_getElem? (i := 287) (by decide +kernel)) rfl
theorem w_288 : Cond.code yX6_roof cX6_roof 4 (some .int) ∈ lw_g := lw_g_of (List.mem_of_getElem? (i := 288) (by decide +kernel)) rfl
theorem w_289 : Cond.methodLink RX6 70 yX6_isCell ∈ lw_g := lw_g_of (List.mem_of_getElem? (i := 289) (by decide +kernel)) rfl
theorem w_290 : Cond.static yX6_isCell ∈ lw_g := lw_g_of (List.mem_of_getElem? (i := 290) (by decide +kernel)) rfl
theorem w_291 : Cond.code yX6_isCell cX6_isCell 1 (some .boolean) ∈ lw_g := lw_g_of (List.mem_of_getElem? (i := 291) (by decide +kernel)) rfl
theorem w_292 : Cond.methodLink RX6 74 yX6_isIn ∈ lw_g := lw_g_of (List.mem_of_getElem? (i := 292) (by decide +kernel)) rfl
theorem w_293 : Cond.static yX6_isIn ∈ lw_g := lw_g_of (List.mem_of_getElem? (i := 293) (by decide +kernel)) rfl
theorem w_294 : Cond.code yX6_isIn cX6_isIn 3 (some .boolean) ∈ lw_g := lw_g_of (List.mem_of_getElem? (i := 294) (by decide +kernel)) rfl
theorem w_295 : Cond.methodLink RX6 78 yX6_finding ∈ lw_g := lw_g_of (List.mem_of_getElem? (i := 295) (by decide +kernel)) rfl
theorem w_297 : Cond.instanceMethod yX6_finding ∈ lw_g := lw_g_of (List.mem_of_getElem? (i := 297) (by decide +kernel)) rfl
theorem w_298 : Cond.code yX6_finding cX6_finding 2 (some .int) ∈ lw_g := lw_g_of (List.mem_of_getElem? (i := 298) (by decide +kernel)) rfl
theorem w_299 : Cond.constant RX6 312 (-1000001) ∈ lw_g := lw_g_of (List.mem_of_getElem? (i := 299) (by decide +kernel)) rfl
theorem w_300 : Cond.methodLink RL 18 yX6_wind ∈ lw_g := lw_g_of (List.mem_of_getElem? (i := 300) (by decide +kernel)) rfl
theorem w_301 : Cond.instanceMethod yX6_wind ∈ lw_g := lw_g_of (List.mem_of_getElem? (i := 301) (by decide +kernel)) rfl
theorem w_302 : Cond.selects RX6 yX6_wind yX6_wind ∈ lw_g := lw_g_of (List.mem_of_getElem? (i := 302) (by decide +kernel)) rfl
theorem w_303 : Cond.code yX6_wind cX6_wind 4 (some .int) ∈ lw_g := lw_g_of (List.mem_of_getElem? (i := 303) (by decide +kernel)) rfl
theorem w_304 : Cond.methodLink RL 22 yX6_chimney ∈ lw_g := lw_g_of (List.mem_of_getElem? (i := 304) (by decide +kernel)) rfl
theorem w_305 : Cond.instanceMethod yX6_chimney ∈ lw_g := lw_g_of (List.mem_of_getElem? (i := 305) (by decide +kernel)) rfl
theorem w_306 : Cond.selects RX6 yX6_chimney yX6_chimney ∈ lw_g := lw_g_of (List.mem_of_getElem? (i := 306) (by decide +kernel)) rfl
theorem w_307 : Cond.code yX6_chimney cX6_chimney 4 (some .int) ∈ lw_g := lw_g_of (List.mem_of_getElem? (i := 307) (by decide +kernel)) rfl
theorem w_308 : Cond.methodLink RX6 88 yX6_isKind ∈ lw_g := lw_g_of (List.mem_of_getElem? (i := 308) (by decide +kernel)) rfl
theorem w_309 : Cond.static yX6_isKind ∈ lw_g := lw_g_of (List.mem_of_getElem? (i := 309) (by decide +kernel)) rfl
theorem w_310 : Cond.code yX6_isKind cX6_isKind 1 (some .boolean) ∈ lw_g := lw_g_of (List.mem_of_getElem? (i := 310) (by decide +kernel)) rfl
theorem w_311 : Cond.methodLink RX6 91 yX6_isOwner ∈ lw_g := lw_g_of (List.mem_of_getElem? (i := 311) (by decide +kernel)) rfl
theorem w_312 : Cond.static yX6_isOwner ∈ lw_g := lw_g_of (List.mem_of_getElem? (i := 312) (by decide +kernel)) rfl
theorem w_313 : Cond.code yX6_isOwner cX6_isOwner 1 (some .boolean) ∈ lw_g := lw_g_of (List.mem_of_getElem? (i := 313) (by decide +kernel)) rfl
theorem w_314 : Cond.methodLink RX6 94 yX5_isFull ∈ lw_g := lw_g_of (List.mem_of_getElem? (i := 314) (by decide +kernel)) rfl
theorem w_315 : Cond.instanceMethod yX5_isFull ∈ lw_g := lw_g_of (List.mem_of_getElem? (i := 315) (by decide +kernel)) rfl
theorem w_316 : Cond.selects RX5 yX5_isFull yX5_isFull ∈ lw_g := lw_g_of (List.mem_of_getElem? (i := 316) (by decide +kernel)) rfl
theorem w_317 : Cond.code yX5_isFull cX5_isFull 1 (some .boolean) ∈ lw_g := lw_g_of (List.mem_of_getElem? (i := 317) (by decide +kernel)) rfl
theorem w_318 : Cond.methodLink RX6 98 yX5_raise ∈ lw_g := lw_g_of (List.mem_of_getElem? (i := 318) (by decide +kernel)) rfl
theorem w_319 : Cond.instanceMethod yX5_raise ∈ lw_g := lw_g_of (List.mem_of_getElem? (i := 319) (by decide +kernel)) rfl
theorem w_320 : Cond.selects RX5 yX5_raise yX5_raise ∈ lw_g := lw_g_of (List.mem_of_getElem? (i := 320) (by decide +kernel)) rfl
theorem w_321 : Cond.code yX5_raise cX5_raise 4 (some .int) ∈ lw_g := lw_g_of (List.mem_of_getElem? (i := 321) (by decide +kernel)) rfl
theorem w_322 : Cond.methodLink RX5 57 yX0_begin ∈ lw_g := lw_g_of (List.mem_of_getElem? (i := 322) (by decide +kernel)) rfl
theorem w_323 : Cond.instanceMethod yX0_begin ∈ lw_g := lw_g_of (List.mem_of_getElem? (i := 323) (by decide +kernel)) rfl
theorem w_324 : Cond.selects RX0 yX0_begin yX0_begin ∈ lw_g := lw_g_of (List.mem_of_getElem? (i := 324) (by decide +kernel)) rfl
theorem w_325 : Cond.code yX0_begin cX0_begin 4 none ∈ lw_g := lw_g_of (List.mem_of_getElem? (i := 325) (by decide +kernel)) rfl
theorem w_326 : Cond.methodLink RX0 31 yJ7_fill_53178 ∈ lw_g := lw_g_of (List.mem_of_getElem? (i := 326) (by decide +kernel)) rfl
theorem w_327 : Cond.methodLink RL 27 yX6_of ∈ lw_g := lw_g_of (List.mem_of_getElem? (i := 327) (by decide +kernel)) rfl
theorem w_328 : Cond.instanceMethod yX6_of ∈ lw_g := lw_g_of (List.mem_of_getElem? (i := 328) (by decide +kernel)) rfl
theorem w_329 : Cond.selects RX6 yX6_of yX6_of ∈ lw_g := lw_g_of (List.mem_of_getElem? (i := 329) (by decide +kernel)) rfl
theorem w_330 : Cond.code yX6_of cX6_of 5 (some .int) ∈ lw_g := lw_g_of (List.mem_of_getElem? (i := 330) (by decide +kernel)) rfl
theorem w_331 : Cond.methodLink RX6 102 yX6_isChimney ∈ lw_g := lw_g_of (List.mem_of_getElem? (i := 331) (by decide +kernel)) rfl
theorem w_333 : Cond.instanceMethod yX6_isChimney ∈ lw_g := lw_g_of (List.mem_of_getElem? (i := 333) (by decide +kernel)) rfl
theorem w_334 : Cond.code yX6_isChimney cX6_isChimney 2 (some .boolean) ∈ lw_g := lw_g_of (List.mem_of_getElem? (i := 334) (by decide +kernel)) rfl
theorem w_335 : Cond.methodLink RX6 112 yX0_worth ∈ lw_g := lw_g_of (List.mem_of_getElem? (i := 335) (by decide +kernel)) rfl
theorem w_336 : Cond.instanceMethod yX0_worth ∈ lw_g := lw_g_of (List.mem_of_getElem? (i := 336) (by decide +kernel)) rfl
theorem w_337 : Cond.selects RX0 yX0_worth yX0_worth ∈ lw_g := lw_g_of (List.mem_of_getElem? (i := 337) (by decide +kernel)) rfl
theorem w_338 : Cond.code yX0_worth cX0_worth 1 (some .int) ∈ lw_g := lw_g_of (List.mem_of_getElem? (i := 338) (by decide +kernel)) rfl
theorem w_341 : Cond.methodLink RX6 116 yX0_sooty ∈ lw_g := lw_g_of (List.mem_of_getElem? (i := 341) (by decide +kernel)) rfl
theorem w_342 : Cond.instanceMethod yX0_sooty ∈ lw_g := lw_g_of (List.mem_of_getElem? (i := 342) (by decide +kernel)) rfl
theorem w_343 : Cond.selects RX0 yX0_sooty yX0_sooty ∈ lw_g := lw_g_of (List.mem_of_getElem? (i := 343) (by decide +kernel)) rfl
theorem w_344 : Cond.code yX0_sooty cX0_sooty 1 (some .int) ∈ lw_g := lw_g_of (List.mem_of_getElem? (i := 344) (by decide +kernel)) rfl
theorem w_347 : Cond.methodLink RX0 49 yJ9_max_7cf53 ∈ lw_g := lw_g_of (List.mem_of_getElem? (i := 347) (by decide +kernel)) rfl
theorem w_348 : Cond.static yJ9_max_7cf53 ∈ lw_g := lw_g_of (List.mem_of_getElem? (i := 348) (by decide +kernel)) rfl
theorem w_349 : Cond.code yJ9_max_7cf53 cJ9_max_7cf53 2 (some .int) ∈ lw_g := lw_g_of (List.mem_of_getElem? (i := 349) (by decide +kernel)) rfl
theorem w_350 : Cond.methodLink RX6 123 yX0_isLitAt ∈ lw_g := lw_g_of (List.mem_of_getElem? (i := 350) (by decide +kernel)) rfl
theorem w_351 : Cond.instanceMethod yX0_isLitAt ∈ lw_g := lw_g_of (List.mem_of_getElem? (i := 351) (by decide +kernel)) rfl
theorem w_352 : Cond.selects RX0 yX0_isLitAt yX0_isLitAt ∈ lw_g := lw_g_of (List.mem_of_getElem? (i := 352) (by decide +kernel)) rfl
theorem w_353 : Cond.code yX0_isLitAt cX0_isLitAt 2 (some .boolean) ∈ lw_g := lw_g_of (List.mem_of_getElem? (i := 353) (by decide +kernel)) rfl
theorem w_354 : Cond.methodLink RX0 55 yJ9_floorMod_7cf53 ∈ lw_g := lw_g_of (List.mem_of_getElem? (i := 354) (by decide +kernel)) rfl
theorem w_355 : Cond.static yJ9_floorMod_7cf53 ∈ lw_g := lw_g_of (List.mem_of_getElem? (i := 355) (by decide +kernel)) rfl
theorem w_356 : Cond.code yJ9_floorMod_7cf53 cJ9_floorMod_7cf53 3 (some .int) ∈ lw_g := lw_g_of (List.mem_of_getElem? (i := 356) (by decide +kernel)) rfl
theorem w_357 : Cond.methodLink RX6 126 yX0_burnsAt ∈ lw_g := lw_g_of (List.mem_of_getElem? (i := 357) (by decide +kernel)) rfl
theorem w_358 : Cond.instanceMethod yX0_burnsAt ∈ lw_g := lw_g_of (List.mem_of_getElem? (i := 358) (by decide +kernel)) rfl
theorem w_359 : Cond.selects RX0 yX0_burnsAt yX0_burnsAt ∈ lw_g := lw_g_of (List.mem_of_getElem? (i := 359) (by decide +kernel)) rfl
theorem w_360 : Cond.code yX0_burnsAt cX0_burnsAt 3 (some .int) ∈ lw_g := lw_g_of (List.mem_of_getElem? (i := 360) (by decide +kernel)) rfl
theorem w_361 : Cond.methodLink RL 31 yX6_change ∈ lw_g := lw_g_of (List.mem_of_getElem? (i := 361) (by decide +kernel)) rfl
theorem w_362 : Cond.instanceMethod yX6_change ∈ lw_g := lw_g_of (List.mem_of_getElem? (i := 362) (by decide +kernel)) rfl
theorem w_363 : Cond.selects RX6 yX6_change yX6_change ∈ lw_g := lw_g_of (List.mem_of_getElem? (i := 363) (by decide +kernel)) rfl
theorem w_364 : Cond.code yX6_change cX6_change 6 (some .int) ∈ lw_g := lw_g_of (List.mem_of_getElem? (i := 364) (by decide +kernel)) rfl
theorem w_365 : Cond.fieldLink RX6 129 RX6 "TRAIT_LIMITS" "[I" ∈ lw_g := lw_g_of (List.mem_of_getElem? (i := 365) (by decide +kernel)) rfl
theorem w_367 : Cond.methodLink RL 35 yX6_book ∈ lw_g := lw_g_of (List.mem_of_getElem? (i := 367) (by decide +kernel)) rfl
theorem w_368 : Cond.instanceMethod yX6_book ∈ lw_g := lw_g_of (List.mem_of_getElem? (i := 368) (by decide +kernel)) rfl
theorem w_369 : Cond.selects RX6 yX6_book yX6_book ∈ lw_g := lw_g_of (List.mem_of_getElem? (i := 369) (by decide +kernel)) rfl
theorem w_370 : Cond.code yX6_book cX6_book 2 (some .int) ∈ lw_g := lw_g_of (List.mem_of_getElem? (i := 370) (by decide +kernel)) rfl
theorem w_371 : Cond.methodLink RL 40 yX6_strike ∈ lw_g := lw_g_of (List.mem_of_getElem? (i := 371) (by decide +kernel)) rfl
theorem w_372 : Cond.instanceMethod yX6_strike ∈ lw_g := lw_g_of (List.mem_of_getElem? (i := 372) (by decide +kernel)) rfl
theorem w_373 : Cond.selects RX6 yX6_strike yX6_strike ∈ lw_g := lw_g_of (List.mem_of_getElem? (i := 373) (by decide +kernel)) rfl
theorem w_374 : Cond.code yX6_strike cX6_strike 3 (some .int) ∈ lw_g := lw_g_of (List.mem_of_getElem? (i := 374) (by decide +kernel)) rfl
theorem w_375 : Cond.methodLink RX6 135 yJ9_max_7cf53 ∈ lw_g := lw_g_of (List.mem_of_getElem? (i := 375) (by decide +kernel)) rfl
theorem w_376 : Cond.methodLink RL 45 yX6_air ∈ lw_g := lw_g_of (List.mem_of_getElem? (i := 376) (by decide +kernel)) rfl
theorem w_377 : Cond.instanceMethod yX6_air ∈ lw_g := lw_g_of (List.mem_of_getElem? (i := 377) (by decide +kernel)) rfl
theorem w_378 : Cond.selects RX6 yX6_air yX6_air ∈ lw_g := lw_g_of (List.mem_of_getElem? (i := 378) (by decide +kernel)) rfl
theorem w_379 : Cond.code yX6_air cX6_air 5 (some .int) ∈ lw_g := lw_g_of (List.mem_of_getElem? (i := 379) (by decide +kernel)) rfl
theorem w_380 : Cond.methodLink RX6 141 yX6_isChimneyOrAll ∈ lw_g := lw_g_of (List.mem_of_getElem? (i := 380) (by decide +kernel)) rfl
theorem w_382 : Cond.instanceMethod yX6_isChimneyOrAll ∈ lw_g := lw_g_of (List.mem_of_getElem? (i := 382) (by decide +kernel)) rfl
theorem w_383 : Cond.code yX6_isChimneyOrAll cX6_isChimneyOrAll 2 (some .boolean) ∈ lw_g := lw_g_of (List.mem_of_getElem? (i := 383) (by decide +kernel)) rfl
theorem w_384 : Cond.methodLink RX6 144 yX6_isCellOrAll ∈ lw_g := lw_g_of (List.mem_of_getElem? (i := 384) (by decide +kernel)) rfl
theorem w_385 : Cond.static yX6_isCellOrAll ∈ lw_g := lw_g_of (List.mem_of_getElem? (i := 385) (by decide +kernel)) rfl
theorem w_386 : Cond.code yX6_isCellOrAll cX6_isCellOrAll 1 (some .boolean) ∈ lw_g := lw_g_of (List.mem_of_getElem? (i := 386) (by decide +kernel)) rfl
theorem w_387 : Cond.methodLink RX6 147 yX6_lastOf ∈ lw_g := lw_g_of (List.mem_of_getElem? (i := 387) (by decide +kernel)) rfl
theorem w_389 : Cond.instanceMethod yX6_lastOf ∈ lw_g := lw_g_of (List.mem_of_getElem? (i := 389) (by decide +kernel)) rfl
theorem w_390 : Cond.code yX6_lastOf cX6_lastOf 2 (some .int) ∈ lw_g := lw_g_of (List.mem_of_getElem? (i := 390) (by decide +kernel)) rfl
theorem w_391 : Cond.methodLink RX6 153 yX6_partsOver ∈ lw_g := lw_g_of (List.mem_of_getElem? (i := 391) (by decide +kernel)) rfl
theorem w_392 : Cond.static yX6_partsOver ∈ lw_g := lw_g_of (List.mem_of_getElem? (i := 392) (by decide +kernel)) rfl
theorem w_393 : Cond.code yX6_partsOver cX6_partsOver 4 (some .int) ∈ lw_g := lw_g_of (List.mem_of_getElem? (i := 393) (by decide +kernel)) rfl
theorem w_394 : Cond.methodLink RL 49 yX6_settled ∈ lw_g := lw_g_of (List.mem_of_getElem? (i := 394) (by decide +kernel)) rfl
theorem w_395 : Cond.instanceMethod yX6_settled ∈ lw_g := lw_g_of (List.mem_of_getElem? (i := 395) (by decide +kernel)) rfl
theorem w_396 : Cond.selects RX6 yX6_settled yX6_settled ∈ lw_g := lw_g_of (List.mem_of_getElem? (i := 396) (by decide +kernel)) rfl
theorem w_397 : Cond.code yX6_settled cX6_settled 5 (some .int) ∈ lw_g := lw_g_of (List.mem_of_getElem? (i := 397) (by decide +kernel)) rfl
theorem w_398 : Cond.methodLink RL 53 yX6_parts ∈ lw_g := lw_g_of (List.mem_of_getElem? (i := 398) (by decide +kernel)) rfl
theorem w_399 : Cond.instanceMethod yX6_parts ∈ lw_g := lw_g_of (List.mem_of_getElem? (i := 399) (by decide +kernel)) rfl
theorem w_400 : Cond.selects RX6 yX6_parts yX6_parts ∈ lw_g := lw_g_of (List.mem_of_getElem? (i := 400) (by decide +kernel)) rfl
theorem w_401 : Cond.code yX6_parts cX6_parts 4 (some .int) ∈ lw_g := lw_g_of (List.mem_of_getElem? (i := 401) (by decide +kernel)) rfl
theorem w_402 : Cond.methodLink RL 57 yX6_thickest ∈ lw_g := lw_g_of (List.mem_of_getElem? (i := 402) (by decide +kernel)) rfl
theorem w_403 : Cond.instanceMethod yX6_thickest ∈ lw_g := lw_g_of (List.mem_of_getElem? (i := 403) (by decide +kernel)) rfl
theorem w_404 : Cond.selects RX6 yX6_thickest yX6_thickest ∈ lw_g := lw_g_of (List.mem_of_getElem? (i := 404) (by decide +kernel)) rfl
theorem w_405 : Cond.code yX6_thickest cX6_thickest 5 (some .int) ∈ lw_g := lw_g_of (List.mem_of_getElem? (i := 405) (by decide +kernel)) rfl
theorem w_406 : Cond.methodLink RX6 169 yX5_aloftOver ∈ lw_g := lw_g_of (List.mem_of_getElem? (i := 406) (by decide +kernel)) rfl
theorem w_407 : Cond.instanceMethod yX5_aloftOver ∈ lw_g := lw_g_of (List.mem_of_getElem? (i := 407) (by decide +kernel)) rfl
theorem w_408 : Cond.selects RX5 yX5_aloftOver yX5_aloftOver ∈ lw_g := lw_g_of (List.mem_of_getElem? (i := 408) (by decide +kernel)) rfl
theorem w_409 : Cond.code yX5_aloftOver cX5_aloftOver 4 (some .int) ∈ lw_g := lw_g_of (List.mem_of_getElem? (i := 409) (by decide +kernel)) rfl
theorem w_410 : Cond.methodLink RL 61 yX6_touched ∈ lw_g := lw_g_of (List.mem_of_getElem? (i := 410) (by decide +kernel)) rfl
theorem w_411 : Cond.instanceMethod yX6_touched ∈ lw_g := lw_g_of (List.mem_of_getElem? (i := 411) (by decide +kernel)) rfl
theorem w_412 : Cond.selects RX6 yX6_touched yX6_touched ∈ lw_g := lw_g_of (List.mem_of_getElem? (i := 412) (by decide +kernel)) rfl
theorem w_413 : Cond.code yX6_touched cX6_touched 5 (some .int) ∈ lw_g := lw_g_of (List.mem_of_getElem? (i := 413) (by decide +kernel)) rfl
theorem w_414 : Cond.methodLink RL 65 yX6_hours ∈ lw_g := lw_g_of (List.mem_of_getElem? (i := 414) (by decide +kernel)) rfl
theorem w_415 : Cond.instanceMethod yX6_hours ∈ lw_g := lw_g_of (List.mem_of_getElem? (i := 415) (by decide +kernel)) rfl
theorem w_416 : Cond.selects RX6 yX6_hours yX6_hours ∈ lw_g := lw_g_of (List.mem_of_getElem? (i := 416) (by decide +kernel)) rfl
theorem w_417 : Cond.code yX6_hours cX6_hours 3 (some .int) ∈ lw_g := lw_g_of (List.mem_of_getElem? (i := 417) (by decide +kernel)) rfl
theorem w_418 : Cond.methodLink RX6 172 yX6_hasHours ∈ lw_g := lw_g_of (List.mem_of_getElem? (i := 418) (by decide +kernel)) rfl
theorem w_420 : Cond.instanceMethod yX6_hasHours ∈ lw_g := lw_g_of (List.mem_of_getElem? (i := 420) (by decide +kernel)) rfl
theorem w_421 : Cond.code yX6_hasHours cX6_hasHours 2 (some .boolean) ∈ lw_g := lw_g_of (List.mem_of_getElem? (i := 421) (by decide +kernel)) rfl
theorem w_422 : Cond.methodLink RX6 175 yX3_begin ∈ lw_g := lw_g_of (List.mem_of_getElem? (i := 422) (by decide +kernel)) rfl
theorem w_423 : Cond.instanceMethod yX3_begin ∈ lw_g := lw_g_of (List.mem_of_getElem? (i := 423) (by decide +kernel)) rfl
theorem w_424 : Cond.selects RX3 yX3_begin yX3_begin ∈ lw_g := lw_g_of (List.mem_of_getElem? (i := 424) (by decide +kernel)) rfl
theorem w_425 : Cond.code yX3_begin cX3_begin 1 none ∈ lw_g := lw_g_of (List.mem_of_getElem? (i := 425) (by decide +kernel)) rfl
theorem w_426 : Cond.methodLink RX3 25 yJ7_fill_53178 ∈ lw_g := lw_g_of (List.mem_of_getElem? (i := 426) (by decide +kernel)) rfl
theorem w_427 : Cond.methodLink RX6 181 yX5_playHours ∈ lw_g := lw_g_of (List.mem_of_getElem? (i := 427) (by decide +kernel)) rfl
theorem w_428 : Cond.instanceMethod yX5_playHours ∈ lw_g := lw_g_of (List.mem_of_getElem? (i := 428) (by decide +kernel)) rfl
theorem w_429 : Cond.selects RX5 yX5_playHours yX5_playHours ∈ lw_g := lw_g_of (List.mem_of_getElem? (i := 429) (by decide +kernel)) rfl
theorem w_430 : Cond.code yX5_playHours cX5_playHours 7 none ∈ lw_g := lw_g_of (List.mem_of_getElem? (i := 430) (by decide +kernel)) rfl
theorem w_431 : Cond.methodLink RX5 65 yX0_isLitAt ∈ lw_g := lw_g_of (List.mem_of_getElem? (i := 431) (by decide +kernel)) rfl
theorem w_432 : Cond.methodLink RX5 69 yX5_playClock ∈ lw_g := lw_g_of (List.mem_of_getElem? (i := 432) (by decide +kernel)) rfl
theorem w_433 : Cond.instanceMethod yX5_playClock ∈ lw_g := lw_g_of (List.mem_of_getElem? (i := 433) (by decide +kernel)) rfl
theorem w_434 : Cond.selects RX5 yX5_playClock yX5_playClock ∈ lw_g := lw_g_of (List.mem_of_getElem? (i := 434) (by decide +kernel)) rfl
theorem w_435 : Cond.code yX5_playClock cX5_playClock 5 none ∈ lw_g := lw_g_of (List.mem_of_getElem? (i := 435) (by decide +kernel)) rfl
theorem w_436 : Cond.methodLink RX5 73 yX0_burnAt ∈ lw_g := lw_g_of (List.mem_of_getElem? (i := 436) (by decide +kernel)) rfl
theorem w_437 : Cond.instanceMethod yX0_burnAt ∈ lw_g := lw_g_of (List.mem_of_getElem? (i := 437) (by decide +kernel)) rfl
theorem w_438 : Cond.selects RX0 yX0_burnAt yX0_burnAt ∈ lw_g := lw_g_of (List.mem_of_getElem? (i := 438) (by decide +kernel)) rfl
theorem w_439 : Cond.code yX0_burnAt cX0_burnAt 3 none ∈ lw_g := lw_g_of (List.mem_of_getElem? (i := 439) (by decide +kernel)) rfl
theorem w_440 : Cond.methodLink RX0 58 yX0_burnsAt ∈ lw_g := lw_g_of (List.mem_of_getElem? (i := 440) (by decide +kernel)) rfl
theorem w_441 : Cond.methodLink RX5 77 yX0_comeDown ∈ lw_g := lw_g_of (List.mem_of_getElem? (i := 441) (by decide +kernel)) rfl
theorem w_442 : Cond.instanceMethod yX0_comeDown ∈ lw_g := lw_g_of (List.mem_of_getElem? (i := 442) (by decide +kernel)) rfl
theorem w_443 : Cond.selects RX0 yX0_comeDown yX0_comeDown ∈ lw_g := lw_g_of (List.mem_of_getElem? (i := 443) (by decide +kernel)) rfl
theorem w_444 : Cond.code yX0_comeDown cX0_comeDown 2 none ∈ lw_g := lw_g_of (List.mem_of_getElem? (i := 444) (by decide +kernel)) rfl
theorem w_445 : Cond.methodLink RX5 80 yX0_drift ∈ lw_g := lw_g_of (List.mem_of_getElem? (i := 445) (by decide +kernel)) rfl
theorem w_446 : Cond.instanceMethod yX0_drift ∈ lw_g := lw_g_of (List.mem_of_getElem? (i := 446) (by decide +kernel)) rfl
theorem w_447 : Cond.selects RX0 yX0_drift yX0_drift ∈ lw_g := lw_g_of (List.mem_of_getElem? (i := 447) (by decide +kernel)) rfl
theorem w_448 : Cond.code yX0_drift cX0_drift 4 none ∈ lw_g := lw_g_of (List.mem_of_getElem? (i := 448) (by decide +kernel)) rfl
theorem w_451 : Cond.methodLink RX0 65 yX0_cellBeside ∈ lw_g := lw_g_of (List.mem_of_getElem? (i := 451) (by decide +kernel)) rfl
theorem w_452 : Cond.static yX0_cellBeside ∈ lw_g := lw_g_of (List.mem_of_getElem? (i := 452) (by decide +kernel)) rfl
theorem w_453 : Cond.code yX0_cellBeside cX0_cellBeside 3 (some .int) ∈ lw_g := lw_g_of (List.mem_of_getElem? (i := 453) (by decide +kernel)) rfl
theorem w_454 : Cond.methodLink RX0 68 yX0_moveTo ∈ lw_g := lw_g_of (List.mem_of_getElem? (i := 454) (by decide +kernel)) rfl
theorem w_455 : Cond.instanceMethod yX0_moveTo ∈ lw_g := lw_g_of (List.mem_of_getElem? (i := 455) (by decide +kernel)) rfl
theorem w_456 : Cond.selects RX0 yX0_moveTo yX0_moveTo ∈ lw_g := lw_g_of (List.mem_of_getElem? (i := 456) (by decide +kernel)) rfl
theorem w_457 : Cond.code yX0_moveTo cX0_moveTo 3 none ∈ lw_g := lw_g_of (List.mem_of_getElem? (i := 457) (by decide +kernel)) rfl
theorem w_458 : Cond.methodLink RX5 83 yX0_settle ∈ lw_g := lw_g_of (List.mem_of_getElem? (i := 458) (by decide +kernel)) rfl
theorem w_459 : Cond.instanceMethod yX0_settle ∈ lw_g := lw_g_of (List.mem_of_getElem? (i := 459) (by decide +kernel)) rfl
theorem w_460 : Cond.selects RX0 yX0_settle yX0_settle ∈ lw_g := lw_g_of (List.mem_of_getElem? (i := 460) (by decide +kernel)) rfl
theorem w_461 : Cond.code yX0_settle cX0_settle 7 none ∈ lw_g := lw_g_of (List.mem_of_getElem? (i := 461) (by decide +kernel)) rfl
theorem w_462 : Cond.methodLink RX0 72 yX0_sooty ∈ lw_g := lw_g_of (List.mem_of_getElem? (i := 462) (by decide +kernel)) rfl
theorem w_463 : Cond.methodLink RX0 76 yX0_worth ∈ lw_g := lw_g_of (List.mem_of_getElem? (i := 463) (by decide +kernel)) rfl
theorem w_464 : Cond.methodLink RX0 79 yX3_add ∈ lw_g := lw_g_of (List.mem_of_getElem? (i := 464) (by decide +kernel)) rfl
theorem w_465 : Cond.instanceMethod yX3_add ∈ lw_g := lw_g_of (List.mem_of_getElem? (i := 465) (by decide +kernel)) rfl
theorem w_466 : Cond.selects RX3 yX3_add yX3_add ∈ lw_g := lw_g_of (List.mem_of_getElem? (i := 466) (by decide +kernel)) rfl
theorem w_467 : Cond.code yX3_add cX3_add 5 none ∈ lw_g := lw_g_of (List.mem_of_getElem? (i := 467) (by decide +kernel)) rfl
theorem w_468 : Cond.methodLink RL 69 yX6_ahead ∈ lw_g := lw_g_of (List.mem_of_getElem? (i := 468) (by decide +kernel)) rfl
theorem w_469 : Cond.instanceMethod yX6_ahead ∈ lw_g := lw_g_of (List.mem_of_getElem? (i := 469) (by decide +kernel)) rfl
theorem w_470 : Cond.selects RX6 yX6_ahead yX6_ahead ∈ lw_g := lw_g_of (List.mem_of_getElem? (i := 470) (by decide +kernel)) rfl
theorem w_471 : Cond.code yX6_ahead cX6_ahead 6 (some .int) ∈ lw_g := lw_g_of (List.mem_of_getElem? (i := 471) (by decide +kernel)) rfl
theorem w_472 : Cond.methodLink RX6 191 yX0_take ∈ lw_g := lw_g_of (List.mem_of_getElem? (i := 472) (by decide +kernel)) rfl
theorem w_473 : Cond.instanceMethod yX0_take ∈ lw_g := lw_g_of (List.mem_of_getElem? (i := 473) (by decide +kernel)) rfl
theorem w_474 : Cond.selects RX0 yX0_take yX0_take ∈ lw_g := lw_g_of (List.mem_of_getElem? (i := 474) (by decide +kernel)) rfl
theorem w_475 : Cond.code yX0_take cX0_take 2 none ∈ lw_g := lw_g_of (List.mem_of_getElem? (i := 475) (by decide +kernel)) rfl
theorem w_476 : Cond.methodLink RX0 37 arraycopyName ∈ lw_g := lw_g_of (List.mem_of_getElem? (i := 476) (by decide +kernel)) rfl
theorem w_477 : Cond.static arraycopyName ∈ lw_g := lw_g_of (List.mem_of_getElem? (i := 477) (by decide +kernel)) rfl
theorem w_478 : Cond.native arraycopyName ∈ lw_g := lw_g_of (List.mem_of_getElem? (i := 478) (by decide +kernel)) rfl
theorem w_479 : Cond.methodLink RL 73 yX6_clear ∈ lw_g := lw_g_of (List.mem_of_getElem? (i := 479) (by decide +kernel)) rfl
theorem w_480 : Cond.instanceMethod yX6_clear ∈ lw_g := lw_g_of (List.mem_of_getElem? (i := 480) (by decide +kernel)) rfl
theorem w_481 : Cond.selects RX6 yX6_clear yX6_clear ∈ lw_g := lw_g_of (List.mem_of_getElem? (i := 481) (by decide +kernel)) rfl
theorem w_482 : Cond.code yX6_clear cX6_clear 3 (some .int) ∈ lw_g := lw_g_of (List.mem_of_getElem? (i := 482) (by decide +kernel)) rfl
theorem w_483 : Cond.methodLink RL 77 yX6_reaches ∈ lw_g := lw_g_of (List.mem_of_getElem? (i := 483) (by decide +kernel)) rfl
theorem w_484 : Cond.instanceMethod yX6_reaches ∈ lw_g := lw_g_of (List.mem_of_getElem? (i := 484) (by decide +kernel)) rfl
theorem w_485 : Cond.selects RX6 yX6_reaches yX6_reaches ∈ lw_g := lw_g_of (List.mem_of_getElem? (i := 485) (by decide +kernel)) rfl
theorem w_486 : Cond.code yX6_reaches cX6_reaches 4 (some .int) ∈ lw_g := lw_g_of (List.mem_of_getElem? (i := 486) (by decide +kernel)) rfl
theorem w_487 : Cond.methodLink RL 81 yX6_place ∈ lw_g := lw_g_of (List.mem_of_getElem? (i := 487) (by decide +kernel)) rfl
theorem w_488 : Cond.instanceMethod yX6_place ∈ lw_g := lw_g_of (List.mem_of_getElem? (i := 488) (by decide +kernel)) rfl
theorem w_489 : Cond.selects RX6 yX6_place yX6_place ∈ lw_g := lw_g_of (List.mem_of_getElem? (i := 489) (by decide +kernel)) rfl
theorem w_490 : Cond.code yX6_place cX6_place 3 (some .int) ∈ lw_g := lw_g_of (List.mem_of_getElem? (i := 490) (by decide +kernel)) rfl
theorem w_491 : Cond.methodLink RX6 201 yX6_richest ∈ lw_g := lw_g_of (List.mem_of_getElem? (i := 491) (by decide +kernel)) rfl
theorem w_493 : Cond.instanceMethod yX6_richest ∈ lw_g := lw_g_of (List.mem_of_getElem? (i := 493) (by decide +kernel)) rfl
theorem w_494 : Cond.code yX6_richest cX6_richest 8 (some .int) ∈ lw_g := lw_g_of (List.mem_of_getElem? (i := 494) (by decide +kernel)) rfl
theorem w_495 : Cond.methodLink RX6 204 yX6_playWith ∈ lw_g := lw_g_of (List.mem_of_getElem? (i := 495) (by decide +kernel)) rfl
theorem w_497 : Cond.instanceMethod yX6_playWith ∈ lw_g := lw_g_of (List.mem_of_getElem? (i := 497) (by decide +kernel)) rfl
theorem w_498 : Cond.code yX6_playWith cX6_playWith 5 none ∈ lw_g := lw_g_of (List.mem_of_getElem? (i := 498) (by decide +kernel)) rfl
theorem w_499 : Cond.methodLink RL 85 yX6_highFor ∈ lw_g := lw_g_of (List.mem_of_getElem? (i := 499) (by decide +kernel)) rfl
theorem w_500 : Cond.instanceMethod yX6_highFor ∈ lw_g := lw_g_of (List.mem_of_getElem? (i := 500) (by decide +kernel)) rfl
theorem w_501 : Cond.selects RX6 yX6_highFor yX6_highFor ∈ lw_g := lw_g_of (List.mem_of_getElem? (i := 501) (by decide +kernel)) rfl
theorem w_502 : Cond.code yX6_highFor cX6_highFor 3 (some .int) ∈ lw_g := lw_g_of (List.mem_of_getElem? (i := 502) (by decide +kernel)) rfl
theorem w_503 : Cond.methodLink RL 89 yX6_gains ∈ lw_g := lw_g_of (List.mem_of_getElem? (i := 503) (by decide +kernel)) rfl
theorem w_504 : Cond.instanceMethod yX6_gains ∈ lw_g := lw_g_of (List.mem_of_getElem? (i := 504) (by decide +kernel)) rfl
theorem w_505 : Cond.selects RX6 yX6_gains yX6_gains ∈ lw_g := lw_g_of (List.mem_of_getElem? (i := 505) (by decide +kernel)) rfl
theorem w_506 : Cond.code yX6_gains cX6_gains 6 (some .int) ∈ lw_g := lw_g_of (List.mem_of_getElem? (i := 506) (by decide +kernel)) rfl
theorem w_507 : Cond.methodLink RX6 208 arraycopyName ∈ lw_g := lw_g_of (List.mem_of_getElem? (i := 507) (by decide +kernel)) rfl
theorem w_508 : Cond.methodLink RL 93 yX6_when ∈ lw_g := lw_g_of (List.mem_of_getElem? (i := 508) (by decide +kernel)) rfl
theorem w_509 : Cond.instanceMethod yX6_when ∈ lw_g := lw_g_of (List.mem_of_getElem? (i := 509) (by decide +kernel)) rfl
theorem w_510 : Cond.selects RX6 yX6_when yX6_when ∈ lw_g := lw_g_of (List.mem_of_getElem? (i := 510) (by decide +kernel)) rfl
theorem w_511 : Cond.code yX6_when cX6_when 7 (some .int) ∈ lw_g := lw_g_of (List.mem_of_getElem? (i := 511) (by decide +kernel)) rfl
theorem w_512 : Cond.methodLink RL 97 yX6_build ∈ lw_g := lw_g_of (List.mem_of_getElem? (i := 512) (by decide +kernel)) rfl
theorem w_513 : Cond.instanceMethod yX6_build ∈ lw_g := lw_g_of (List.mem_of_getElem? (i := 513) (by decide +kernel)) rfl
theorem w_514 : Cond.selects RX6 yX6_build yX6_build ∈ lw_g := lw_g_of (List.mem_of_getElem? (i := 514) (by decide +kernel)) rfl
theorem w_515 : Cond.code yX6_build cX6_build 6 (some .int) ∈ lw_g := lw_g_of (List.mem_of_getElem? (i := 515) (by decide +kernel)) rfl
theorem w_516 : Cond.methodLink RX6 214 yX6_playCosts ∈ lw_g := lw_g_of (List.mem_of_getElem? (i := 516) (by decide +kernel)) rfl
theorem w_518 : Cond.instanceMethod yX6_playCosts ∈ lw_g := lw_g_of (List.mem_of_getElem? (i := 518) (by decide +kernel)) rfl
theorem w_519 : Cond.code yX6_playCosts cX6_playCosts 5 none ∈ lw_g := lw_g_of (List.mem_of_getElem? (i := 519) (by decide +kernel)) rfl
theorem w_520 : Cond.methodLink RX6 316 yJ7_fill_53178 ∈ lw_g := lw_g_of (List.mem_of_getElem? (i := 520) (by decide +kernel)) rfl
theorem w_521 : Cond.methodLink RX6 322 yX6_addCosts ∈ lw_g := lw_g_of (List.mem_of_getElem? (i := 521) (by decide +kernel)) rfl
theorem w_523 : Cond.instanceMethod yX6_addCosts ∈ lw_g := lw_g_of (List.mem_of_getElem? (i := 523) (by decide +kernel)) rfl
theorem w_524 : Cond.code yX6_addCosts cX6_addCosts 4 none ∈ lw_g := lw_g_of (List.mem_of_getElem? (i := 524) (by decide +kernel)) rfl
theorem w_525 : Cond.methodLink RL 101 yX6_washing ∈ lw_g := lw_g_of (List.mem_of_getElem? (i := 525) (by decide +kernel)) rfl
theorem w_526 : Cond.instanceMethod yX6_washing ∈ lw_g := lw_g_of (List.mem_of_getElem? (i := 526) (by decide +kernel)) rfl
theorem w_527 : Cond.selects RX6 yX6_washing yX6_washing ∈ lw_g := lw_g_of (List.mem_of_getElem? (i := 527) (by decide +kernel)) rfl
theorem w_528 : Cond.code yX6_washing cX6_washing 8 (some .int) ∈ lw_g := lw_g_of (List.mem_of_getElem? (i := 528) (by decide +kernel)) rfl
theorem w_529 : Cond.methodLink RX6 218 yX6_playDirt ∈ lw_g := lw_g_of (List.mem_of_getElem? (i := 529) (by decide +kernel)) rfl
theorem w_531 : Cond.instanceMethod yX6_playDirt ∈ lw_g := lw_g_of (List.mem_of_getElem? (i := 531) (by decide +kernel)) rfl
theorem w_532 : Cond.code yX6_playDirt cX6_playDirt 4 none ∈ lw_g := lw_g_of (List.mem_of_getElem? (i := 532) (by decide +kernel)) rfl
theorem w_533 : Cond.methodLink RX6 221 yX6_fireOf ∈ lw_g := lw_g_of (List.mem_of_getElem? (i := 533) (by decide +kernel)) rfl
theorem w_535 : Cond.instanceMethod yX6_fireOf ∈ lw_g := lw_g_of (List.mem_of_getElem? (i := 535) (by decide +kernel)) rfl
theorem w_536 : Cond.code yX6_fireOf cX6_fireOf 4 (some .int) ∈ lw_g := lw_g_of (List.mem_of_getElem? (i := 536) (by decide +kernel)) rfl
theorem w_537 : Cond.methodLink RX6 224 yX6_dirtWith ∈ lw_g := lw_g_of (List.mem_of_getElem? (i := 537) (by decide +kernel)) rfl
theorem w_539 : Cond.instanceMethod yX6_dirtWith ∈ lw_g := lw_g_of (List.mem_of_getElem? (i := 539) (by decide +kernel)) rfl
theorem w_540 : Cond.code yX6_dirtWith cX6_dirtWith 4 (some .int) ∈ lw_g := lw_g_of (List.mem_of_getElem? (i := 540) (by decide +kernel)) rfl
theorem w_541 : Cond.methodLink RL 105 yX6_worst ∈ lw_g := lw_g_of (List.mem_of_getElem? (i := 541) (by decide +kernel)) rfl
theorem w_542 : Cond.instanceMethod yX6_worst ∈ lw_g := lw_g_of (List.mem_of_getElem? (i := 542) (by decide +kernel)) rfl
theorem w_543 : Cond.selects RX6 yX6_worst yX6_worst ∈ lw_g := lw_g_of (List.mem_of_getElem? (i := 543) (by decide +kernel)) rfl
theorem w_544 : Cond.code yX6_worst cX6_worst 8 (some .int) ∈ lw_g := lw_g_of (List.mem_of_getElem? (i := 544) (by decide +kernel)) rfl
theorem w_545 : Cond.methodLink RL 109 yX6_over ∈ lw_g := lw_g_of (List.mem_of_getElem? (i := 545) (by decide +kernel)) rfl
theorem w_546 : Cond.instanceMethod yX6_over ∈ lw_g := lw_g_of (List.mem_of_getElem? (i := 546) (by decide +kernel)) rfl
theorem w_547 : Cond.selects RX6 yX6_over yX6_over ∈ lw_g := lw_g_of (List.mem_of_getElem? (i := 547) (by decide +kernel)) rfl
theorem w_548 : Cond.code yX6_over cX6_over 4 (some .int) ∈ lw_g := lw_g_of (List.mem_of_getElem? (i := 548) (by decide +kernel)) rfl
theorem w_549 : Cond.methodLink RL 113 yX6_canHave ∈ lw_g := lw_g_of (List.mem_of_getElem? (i := 549) (by decide +kernel)) rfl
theorem w_550 : Cond.instanceMethod yX6_canHave ∈ lw_g := lw_g_of (List.mem_of_getElem? (i := 550) (by decide +kernel)) rfl
theorem w_551 : Cond.selects RX6 yX6_canHave yX6_canHave ∈ lw_g := lw_g_of (List.mem_of_getElem? (i := 551) (by decide +kernel)) rfl
theorem w_552 : Cond.code yX6_canHave cX6_canHave 7 (some .int) ∈ lw_g := lw_g_of (List.mem_of_getElem? (i := 552) (by decide +kernel)) rfl
theorem w_553 : Cond.methodLink RX6 227 yX6_isUnder ∈ lw_g := lw_g_of (List.mem_of_getElem? (i := 553) (by decide +kernel)) rfl
theorem w_554 : Cond.static yX6_isUnder ∈ lw_g := lw_g_of (List.mem_of_getElem? (i := 554) (by decide +kernel)) rfl
theorem w_555 : Cond.code yX6_isUnder cX6_isUnder 4 (some .boolean) ∈ lw_g := lw_g_of (List.mem_of_getElem? (i := 555) (by decide +kernel)) rfl
theorem w_556 : Cond.fieldLink RX6 313 RX6 "KIND_ABOVE" "[I" ∈ lw_g := lw_g_of (List.mem_of_getElem? (i := 556) (by decide +kernel)) rfl
theorem w_558 : Cond.methodLink RX6 231 yX6_playAlone ∈ lw_g := lw_g_of (List.mem_of_getElem? (i := 558) (by decide +kernel)) rfl
theorem w_560 : Cond.instanceMethod yX6_playAlone ∈ lw_g := lw_g_of (List.mem_of_getElem? (i := 560) (by decide +kernel)) rfl
theorem w_561 : Cond.code yX6_playAlone cX6_playAlone 5 none ∈ lw_g := lw_g_of (List.mem_of_getElem? (i := 561) (by decide +kernel)) rfl
theorem w_562 : Cond.methodLink RX6 325 yX5_playClock ∈ lw_g := lw_g_of (List.mem_of_getElem? (i := 562) (by decide +kernel)) rfl
theorem w_563 : Cond.methodLink RL 118 yX6_clocks ∈ lw_g := lw_g_of (List.mem_of_getElem? (i := 563) (by decide +kernel)) rfl
theorem w_564 : Cond.instanceMethod yX6_clocks ∈ lw_g := lw_g_of (List.mem_of_getElem? (i := 564) (by decide +kernel)) rfl
theorem w_565 : Cond.selects RX6 yX6_clocks yX6_clocks ∈ lw_g := lw_g_of (List.mem_of_getElem? (i := 565) (by decide +kernel)) rfl
theorem w_566 : Cond.code yX6_clocks cX6_clocks 7 (some .int) ∈ lw_g := lw_g_of (List.mem_of_getElem? (i := 566) (by decide +kernel)) rfl
theorem w_567 : Cond.methodLink RX6 235 yX5_cellBehind ∈ lw_g := lw_g_of (List.mem_of_getElem? (i := 567) (by decide +kernel)) rfl
theorem w_568 : Cond.instanceMethod yX5_cellBehind ∈ lw_g := lw_g_of (List.mem_of_getElem? (i := 568) (by decide +kernel)) rfl
theorem w_569 : Cond.selects RX5 yX5_cellBehind yX5_cellBehind ∈ lw_g := lw_g_of (List.mem_of_getElem? (i := 569) (by decide +kernel)) rfl
theorem w_570 : Cond.code yX5_cellBehind cX5_cellBehind 6 (some .int) ∈ lw_g := lw_g_of (List.mem_of_getElem? (i := 570) (by decide +kernel)) rfl
theorem w_571 : Cond.methodLink RX5 87 yX0_cellBeside ∈ lw_g := lw_g_of (List.mem_of_getElem? (i := 571) (by decide +kernel)) rfl
theorem w_572 : Cond.methodLink RL 122 yX6_weather ∈ lw_g := lw_g_of (List.mem_of_getElem? (i := 572) (by decide +kernel)) rfl
theorem w_573 : Cond.instanceMethod yX6_weather ∈ lw_g := lw_g_of (List.mem_of_getElem? (i := 573) (by decide +kernel)) rfl
theorem w_574 : Cond.selects RX6 yX6_weather yX6_weather ∈ lw_g := lw_g_of (List.mem_of_getElem? (i := 574) (by decide +kernel)) rfl
theorem w_575 : Cond.code yX6_weather cX6_weather 4 (some .int) ∈ lw_g := lw_g_of (List.mem_of_getElem? (i := 575) (by decide +kernel)) rfl
theorem w_576 : Cond.methodLink RX6 238 yX5_draw ∈ lw_g := lw_g_of (List.mem_of_getElem? (i := 576) (by decide +kernel)) rfl
theorem w_577 : Cond.instanceMethod yX5_draw ∈ lw_g := lw_g_of (List.mem_of_getElem? (i := 577) (by decide +kernel)) rfl
theorem w_578 : Cond.selects RX5 yX5_draw yX5_draw ∈ lw_g := lw_g_of (List.mem_of_getElem? (i := 578) (by decide +kernel)) rfl
theorem w_579 : Cond.code yX5_draw cX5_draw 1 (some .int) ∈ lw_g := lw_g_of (List.mem_of_getElem? (i := 579) (by decide +kernel)) rfl
theorem w_580 : Cond.constant RX5 64 (1103515245) ∈ lw_g := lw_g_of (List.mem_of_getElem? (i := 580) (by decide +kernel)) rfl
theorem w_581 : Cond.methodLink RL 126 yX6_seed ∈ lw_g := lw_g_of (List.mem_of_getElem? (i := 581) (by decide +kernel)) rfl
theorem w_582 : Cond.instanceMethod yX6_seed ∈ lw_g := lw_g_of (List.mem_of_getElem? (i := 582) (by decide +kernel)) rfl
theorem w_583 : Cond.selects RX6 yX6_seed yX6_seed ∈ lw_g := lw_g_of (List.mem_of_getElem? (i := 583) (by decide +kernel)) rfl
theorem w_584 : Cond.code yX6_seed cX6_seed 3 (some .int) ∈ lw_g := lw_g_of (List.mem_of_getElem? (i := 584) (by decide +kernel)) rfl
theorem w_585 : Cond.methodLink RL 130 yX6_feed ∈ lw_g := lw_g_of (List.mem_of_getElem? (i := 585) (by decide +kernel)) rfl
theorem w_586 : Cond.instanceMethod yX6_feed ∈ lw_g := lw_g_of (List.mem_of_getElem? (i := 586) (by decide +kernel)) rfl
theorem w_587 : Cond.selects RX6 yX6_feed yX6_feed ∈ lw_g := lw_g_of (List.mem_of_getElem? (i := 587) (by decide +kernel)) rfl
theorem w_588 : Cond.code yX6_feed cX6_feed 5 (some .int) ∈ lw_g := lw_g_of (List.mem_of_getElem? (i := 588) (by decide +kernel)) rfl
theorem w_589 : Cond.methodLink RL 134 yX6_wipe ∈ lw_g := lw_g_of (List.mem_of_getElem? (i := 589) (by decide +kernel)) rfl
theorem w_590 : Cond.instanceMethod yX6_wipe ∈ lw_g := lw_g_of (List.mem_of_getElem? (i := 590) (by decide +kernel)) rfl
theorem w_591 : Cond.selects RX6 yX6_wipe yX6_wipe ∈ lw_g := lw_g_of (List.mem_of_getElem? (i := 591) (by decide +kernel)) rfl
theorem w_592 : Cond.code yX6_wipe cX6_wipe 2 (some .int) ∈ lw_g := lw_g_of (List.mem_of_getElem? (i := 592) (by decide +kernel)) rfl
theorem w_593 : Cond.methodLink RL 138 yX6_text ∈ lw_g := lw_g_of (List.mem_of_getElem? (i := 593) (by decide +kernel)) rfl
theorem w_594 : Cond.instanceMethod yX6_text ∈ lw_g := lw_g_of (List.mem_of_getElem? (i := 594) (by decide +kernel)) rfl
theorem w_595 : Cond.selects RX6 yX6_text yX6_text ∈ lw_g := lw_g_of (List.mem_of_getElem? (i := 595) (by decide +kernel)) rfl
theorem w_596 : Cond.code yX6_text cX6_text 3 (some .int) ∈ lw_g := lw_g_of (List.mem_of_getElem? (i := 596) (by decide +kernel)) rfl
theorem w_597 : Cond.methodLink RX6 256 yX1_read ∈ lw_g := lw_g_of (List.mem_of_getElem? (i := 597) (by decide +kernel)) rfl
theorem w_598 : Cond.instanceMethod yX1_read ∈ lw_g := lw_g_of (List.mem_of_getElem? (i := 598) (by decide +kernel)) rfl
theorem w_599 : Cond.selects RX1 yX1_read yX1_read ∈ lw_g := lw_g_of (List.mem_of_getElem? (i := 599) (by decide +kernel)) rfl
theorem w_600 : Cond.code yX1_read cX1_read 4 (some .int) ∈ lw_g := lw_g_of (List.mem_of_getElem? (i := 600) (by decide +kernel)) rfl
theorem w_601 : Cond.methodLink RX1 31 yX4_rewind ∈ lw_g := lw_g_of (List.mem_of_getElem? (i := 601) (by decide +kernel)) rfl
theorem w_602 : Cond.instanceMethod yX4_rewind ∈ lw_g := lw_g_of (List.mem_of_getElem? (i := 602) (by decide +kernel)) rfl
theorem w_603 : Cond.selects RX4 yX4_rewind yX4_rewind ∈ lw_g := lw_g_of (List.mem_of_getElem? (i := 603) (by decide +kernel)) rfl
theorem w_604 : Cond.code yX4_rewind cX4_rewind 1 none ∈ lw_g := lw_g_of (List.mem_of_getElem? (i := 604) (by decide +kernel)) rfl
theorem w_605 : Cond.methodLink RX4 31 yX4_next ∈ lw_g := lw_g_of (List.mem_of_getElem? (i := 605) (by decide +kernel)) rfl
theorem w_606 : Cond.instanceMethod yX4_next ∈ lw_g := lw_g_of (List.mem_of_getElem? (i := 606) (by decide +kernel)) rfl
theorem w_607 : Cond.selects RX4 yX4_next yX4_next ∈ lw_g := lw_g_of (List.mem_of_getElem? (i := 607) (by decide +kernel)) rfl
theorem w_608 : Cond.code yX4_next cX4_next 2 none ∈ lw_g := lw_g_of (List.mem_of_getElem? (i := 608) (by decide +kernel)) rfl
theorem w_609 : Cond.methodLink RX4 34 yX4_sortOf ∈ lw_g := lw_g_of (List.mem_of_getElem? (i := 609) (by decide +kernel)) rfl
theorem w_610 : Cond.static yX4_sortOf ∈ lw_g := lw_g_of (List.mem_of_getElem? (i := 610) (by decide +kernel)) rfl
theorem w_611 : Cond.code yX4_sortOf cX4_sortOf 1 (some .int) ∈ lw_g := lw_g_of (List.mem_of_getElem? (i := 611) (by decide +kernel)) rfl
theorem w_612 : Cond.methodLink RX1 34 yX1_readItem ∈ lw_g := lw_g_of (List.mem_of_getElem? (i := 612) (by decide +kernel)) rfl
theorem w_613 : Cond.instanceMethod yX1_readItem ∈ lw_g := lw_g_of (List.mem_of_getElem? (i := 613) (by decide +kernel)) rfl
theorem w_614 : Cond.selects RX1 yX1_readItem yX1_readItem ∈ lw_g := lw_g_of (List.mem_of_getElem? (i := 614) (by decide +kernel)) rfl
theorem w_615 : Cond.code yX1_readItem cX1_readItem 3 none ∈ lw_g := lw_g_of (List.mem_of_getElem? (i := 615) (by decide +kernel)) rfl
theorem w_616 : Cond.methodLink RX1 48 yX1_kindAtHand ∈ lw_g := lw_g_of (List.mem_of_getElem? (i := 616) (by decide +kernel)) rfl
theorem w_617 : Cond.instanceMethod yX1_kindAtHand ∈ lw_g := lw_g_of (List.mem_of_getElem? (i := 617) (by decide +kernel)) rfl
theorem w_618 : Cond.selects RX1 yX1_kindAtHand yX1_kindAtHand ∈ lw_g := lw_g_of (List.mem_of_getElem? (i := 618) (by decide +kernel)) rfl
theorem w_619 : Cond.code yX1_kindAtHand cX1_kindAtHand 2 (some .int) ∈ lw_g := lw_g_of (List.mem_of_getElem? (i := 619) (by decide +kernel)) rfl
theorem w_620 : Cond.methodLink RX1 122 yX1_wordOf ∈ lw_g := lw_g_of (List.mem_of_getElem? (i := 620) (by decide +kernel)) rfl
theorem w_621 : Cond.static yX1_wordOf ∈ lw_g := lw_g_of (List.mem_of_getElem? (i := 621) (by decide +kernel)) rfl
theorem w_622 : Cond.code yX1_wordOf cX1_wordOf 1 (some (.object "java/lang/String")) ∈ lw_g := lw_g_of (List.mem_of_getElem? (i := 622) (by decide +kernel)) rfl
theorem w_630 : Cond.methodLink RX1 126 yX4_isWord ∈ lw_g := lw_g_of (List.mem_of_getElem? (i := 630) (by decide +kernel)) rfl
theorem w_631 : Cond.instanceMethod yX4_isWord ∈ lw_g := lw_g_of (List.mem_of_getElem? (i := 631) (by decide +kernel)) rfl
theorem w_632 : Cond.selects RX4 yX4_isWord yX4_isWord ∈ lw_g := lw_g_of (List.mem_of_getElem? (i := 632) (by decide +kernel)) rfl
theorem w_633 : Cond.code yX4_isWord cX4_isWord 3 (some .boolean) ∈ lw_g := lw_g_of (List.mem_of_getElem? (i := 633) (by decide +kernel)) rfl
theorem w_634 : Cond.methodLink RX4 44 yJ0_length_8abf5 ∈ lw_g := lw_g_of (List.mem_of_getElem? (i := 634) (by decide +kernel)) rfl
theorem w_635 : Cond.instanceMethod yJ0_length_8abf5 ∈ lw_g := lw_g_of (List.mem_of_getElem? (i := 635) (by decide +kernel)) rfl
theorem w_636 : Cond.selects RJ0 yJ0_length_8abf5 yJ0_length_8abf5 ∈ lw_g := lw_g_of (List.mem_of_getElem? (i := 636) (by decide +kernel)) rfl
theorem w_637 : Cond.code yJ0_length_8abf5 cJ0_length_8abf5 1 (some .int) ∈ lw_g := lw_g_of (List.mem_of_getElem? (i := 637) (by decide +kernel)) rfl
theorem w_638 : Cond.methodLink RJ0 335 yJ0_coder_7d493 ∈ lw_g := lw_g_of (List.mem_of_getElem? (i := 638) (by decide +kernel)) rfl
theorem w_639 : Cond.instanceMethod yJ0_coder_7d493 ∈ lw_g := lw_g_of (List.mem_of_getElem? (i := 639) (by decide +kernel)) rfl
theorem w_640 : Cond.selects RJ0 yJ0_coder_7d493 yJ0_coder_7d493 ∈ lw_g := lw_g_of (List.mem_of_getElem? (i := 640) (by decide +kernel)) rfl
theorem w_641 : Cond.code yJ0_coder_7d493 cJ0_coder_7d493 1 (some .byte) ∈ lw_g := lw_g_of (List.mem_of_getElem? (i := 641) (by decide +kernel)) rfl
theorem w_642 : Cond.fieldLink RJ0 38 RJ0 "COMPACT_STRINGS" "Z" ∈ lw_g := lw_g_of (List.mem_of_getElem? (i := 642) (by decide +kernel)) rfl
theorem w_644 : Cond.methodLink RX4 49 yJ0_charAt_5068e ∈ lw_g := lw_g_of (List.mem_of_getElem? (i := 644) (by decide +kernel)) rfl
theorem w_645 : Cond.instanceMethod yJ0_charAt_5068e ∈ lw_g := lw_g_of (List.mem_of_getElem? (i := 645) (by decide +kernel)) rfl
theorem w_646 : Cond.selects RJ0 yJ0_charAt_5068e yJ0_charAt_5068e ∈ lw_g := lw_g_of (List.mem_of_getElem? (i := 646) (by decide +kernel)) rfl
theorem w_647 : Cond.code yJ0_charAt_5068e cJ0_charAt_5068e 2 (some .char) ∈ lw_g := lw_g_of (List.mem_of_getElem? (i := 647) (by decide +kernel)) rfl
theorem w_648 : Cond.methodLink RJ0 492 yJ0_isLatin1_aae02 ∈ lw_g := lw_g_of (List.mem_of_getElem? (i := 648) (by decide +kernel)) rfl
theorem w_649 : Cond.instanceMethod yJ0_isLatin1_aae02 ∈ lw_g := lw_g_of (List.mem_of_getElem? (i := 649) (by decide +kernel)) rfl
theorem w_650 : Cond.selects RJ0 yJ0_isLatin1_aae02 yJ0_isLatin1_aae02 ∈ lw_g := lw_g_of (List.mem_of_getElem? (i := 650) (by decide +kernel)) rfl
theorem w_651 : Cond.code yJ0_isLatin1_aae02 cJ0_isLatin1_aae02 1 (some .boolean) ∈ lw_g := lw_g_of (List.mem_of_getElem? (i := 651) (by decide +kernel)) rfl
theorem w_652 : Cond.methodLink RJ0 495 yJ1_charAt_3b067 ∈ lw_g := lw_g_of (List.mem_of_getElem? (i := 652) (by decide +kernel)) rfl
theorem w_653 : Cond.static yJ1_charAt_3b067 ∈ lw_g := lw_g_of (List.mem_of_getElem? (i := 653) (by decide +kernel)) rfl
theorem w_654 : Cond.code yJ1_charAt_3b067 cJ1_charAt_3b067 2 (some .char) ∈ lw_g := lw_g_of (List.mem_of_getElem? (i := 654) (by decide +kernel)) rfl
theorem w_655 : Cond.methodLink RJ1 9 yJ0_checkIndex_df160 ∈ lw_g := lw_g_of (List.mem_of_getElem? (i := 655) (by decide +kernel)) rfl
theorem w_656 : Cond.static yJ0_checkIndex_df160 ∈ lw_g := lw_g_of (List.mem_of_getElem? (i := 656) (by decide +kernel)) rfl
theorem w_657 : Cond.code yJ0_checkIndex_df160 cJ0_checkIndex_df160 2 none ∈ lw_g := lw_g_of (List.mem_of_getElem? (i := 657) (by decide +kernel)) rfl
theorem w_658 : Cond.fieldLink RJ0 1053 RJ3 "SIOOBE_FORMATTER" "Ljava/util/function/BiFunction;" ∈ lw_g := lw_g_of (List.mem_of_getElem? (i := 658) (by decide +kernel)) rfl
theorem w_660 : Cond.methodLink RJ0 1059 yJ3_checkIndex_8e157 ∈ lw_g := lw_g_of (List.mem_of_getElem? (i := 660) (by decide +kernel)) rfl
theorem w_661 : Cond.static yJ3_checkIndex_8e157 ∈ lw_g := lw_g_of (List.mem_of_getElem? (i := 661) (by decide +kernel)) rfl
theorem w_662 : Cond.code yJ3_checkIndex_8e157 cJ3_checkIndex_8e157 3 (some .int) ∈ lw_g := lw_g_of (List.mem_of_getElem? (i := 662) (by decide +kernel)) rfl
theorem w_683 : Cond.methodLink RX1 54 yX4_passWord ∈ lw_g := lw_g_of (List.mem_of_getElem? (i := 683) (by decide +kernel)) rfl
theorem w_684 : Cond.instanceMethod yX4_passWord ∈ lw_g := lw_g_of (List.mem_of_getElem? (i := 684) (by decide +kernel)) rfl
theorem w_685 : Cond.selects RX4 yX4_passWord yX4_passWord ∈ lw_g := lw_g_of (List.mem_of_getElem? (i := 685) (by decide +kernel)) rfl
theorem w_686 : Cond.code yX4_passWord cX4_passWord 2 (some .boolean) ∈ lw_g := lw_g_of (List.mem_of_getElem? (i := 686) (by decide +kernel)) rfl
theorem w_687 : Cond.methodLink RX4 53 yX4_hasFault ∈ lw_g := lw_g_of (List.mem_of_getElem? (i := 687) (by decide +kernel)) rfl
theorem w_688 : Cond.instanceMethod yX4_hasFault ∈ lw_g := lw_g_of (List.mem_of_getElem? (i := 688) (by decide +kernel)) rfl
theorem w_689 : Cond.selects RX4 yX4_hasFault yX4_hasFault ∈ lw_g := lw_g_of (List.mem_of_getElem? (i := 689) (by decide +kernel)) rfl
theorem w_690 : Cond.code yX4_hasFault cX4_hasFault 1 (some .boolean) ∈ lw_g := lw_g_of (List.mem_of_getElem? (i := 690) (by decide +kernel)) rfl
theorem w_691 : Cond.methodLink RX4 57 yX4_isWord ∈ lw_g := lw_g_of (List.mem_of_getElem? (i := 691) (by decide +kernel)) rfl
theorem w_692 : Cond.methodLink RX1 58 yX1_readRoof ∈ lw_g := lw_g_of (List.mem_of_getElem? (i := 692) (by decide +kernel)) rfl
theorem w_693 : Cond.instanceMethod yX1_readRoof ∈ lw_g := lw_g_of (List.mem_of_getElem? (i := 693) (by decide +kernel)) rfl
theorem w_694 : Cond.selects RX1 yX1_readRoof yX1_readRoof ∈ lw_g := lw_g_of (List.mem_of_getElem? (i := 694) (by decide +kernel)) rfl
theorem w_695 : Cond.code yX1_readRoof cX1_readRoof 4 none ∈ lw_g := lw_g_of (List.mem_of_getElem? (i := 695) (by decide +kernel)) rfl
theorem w_696 : Cond.methodLink RX1 73 yX4_needNumber ∈ lw_g := lw_g_of (List.mem_of_getElem? (i := 696) (by decide +kernel)) rfl
theorem w_697 : Cond.instanceMethod yX4_needNumber ∈ lw_g := lw_g_of (List.mem_of_getElem? (i := 697) (by decide +kernel)) rfl
theorem w_698 : Cond.selects RX4 yX4_needNumber yX4_needNumber ∈ lw_g := lw_g_of (List.mem_of_getElem? (i := 698) (by decide +kernel)) rfl
theorem w_699 : Cond.code yX4_needNumber cX4_needNumber 3 (some .int) ∈ lw_g := lw_g_of (List.mem_of_getElem? (i := 699) (by decide +kernel)) rfl
theorem w_700 : Cond.methodLink RX4 67 yX4_numberAtHand ∈ lw_g := lw_g_of (List.mem_of_getElem? (i := 700) (by decide +kernel)) rfl
theorem w_701 : Cond.instanceMethod yX4_numberAtHand ∈ lw_g := lw_g_of (List.mem_of_getElem? (i := 701) (by decide +kernel)) rfl
theorem w_702 : Cond.selects RX4 yX4_numberAtHand yX4_numberAtHand ∈ lw_g := lw_g_of (List.mem_of_getElem? (i := 702) (by decide +kernel)) rfl
theorem w_703 : Cond.code yX4_numberAtHand cX4_numberAtHand 3 (some .int) ∈ lw_g := lw_g_of (List.mem_of_getElem? (i := 703) (by decide +kernel)) rfl
theorem w_704 : Cond.methodLink RX4 38 yJ9_min_7cf53 ∈ lw_g := lw_g_of (List.mem_of_getElem? (i := 704) (by decide +kernel)) rfl
theorem w_705 : Cond.static yJ9_min_7cf53 ∈ lw_g := lw_g_of (List.mem_of_getElem? (i := 705) (by decide +kernel)) rfl
theorem w_706 : Cond.code yJ9_min_7cf53 cJ9_min_7cf53 2 (some .int) ∈ lw_g := lw_g_of (List.mem_of_getElem? (i := 706) (by decide +kernel)) rfl
theorem w_707 : Cond.methodLink RX4 64 yX4_fail ∈ lw_g := lw_g_of (List.mem_of_getElem? (i := 707) (by decide +kernel)) rfl
theorem w_708 : Cond.instanceMethod yX4_fail ∈ lw_g := lw_g_of (List.mem_of_getElem? (i := 708) (by decide +kernel)) rfl
theorem w_709 : Cond.selects RX4 yX4_fail yX4_fail ∈ lw_g := lw_g_of (List.mem_of_getElem? (i := 709) (by decide +kernel)) rfl
theorem w_710 : Cond.code yX4_fail cX4_fail 1 none ∈ lw_g := lw_g_of (List.mem_of_getElem? (i := 710) (by decide +kernel)) rfl
theorem w_712 : Cond.methodLink RX1 79 yX4_needWord ∈ lw_g := lw_g_of (List.mem_of_getElem? (i := 712) (by decide +kernel)) rfl
theorem w_713 : Cond.instanceMethod yX4_needWord ∈ lw_g := lw_g_of (List.mem_of_getElem? (i := 713) (by decide +kernel)) rfl
theorem w_714 : Cond.selects RX4 yX4_needWord yX4_needWord ∈ lw_g := lw_g_of (List.mem_of_getElem? (i := 714) (by decide +kernel)) rfl
theorem w_715 : Cond.code yX4_needWord cX4_needWord 2 none ∈ lw_g := lw_g_of (List.mem_of_getElem? (i := 715) (by decide +kernel)) rfl
theorem w_716 : Cond.methodLink RX4 61 yX4_passWord ∈ lw_g := lw_g_of (List.mem_of_getElem? (i := 716) (by decide +kernel)) rfl
theorem w_718 : Cond.methodLink RX1 63 yX1_readWind ∈ lw_g := lw_g_of (List.mem_of_getElem? (i := 718) (by decide +kernel)) rfl
theorem w_719 : Cond.instanceMethod yX1_readWind ∈ lw_g := lw_g_of (List.mem_of_getElem? (i := 719) (by decide +kernel)) rfl
theorem w_720 : Cond.selects RX1 yX1_readWind yX1_readWind ∈ lw_g := lw_g_of (List.mem_of_getElem? (i := 720) (by decide +kernel)) rfl
theorem w_721 : Cond.code yX1_readWind cX1_readWind 4 none ∈ lw_g := lw_g_of (List.mem_of_getElem? (i := 721) (by decide +kernel)) rfl
theorem w_722 : Cond.methodLink RX1 90 yX4_hasFault ∈ lw_g := lw_g_of (List.mem_of_getElem? (i := 722) (by decide +kernel)) rfl
theorem w_723 : Cond.methodLink RX1 66 yX4_next ∈ lw_g := lw_g_of (List.mem_of_getElem? (i := 723) (by decide +kernel)) rfl
theorem w_724 : Cond.methodLink RX1 69 yX1_readChimney ∈ lw_g := lw_g_of (List.mem_of_getElem? (i := 724) (by decide +kernel)) rfl
theorem w_725 : Cond.instanceMethod yX1_readChimney ∈ lw_g := lw_g_of (List.mem_of_getElem? (i := 725) (by decide +kernel)) rfl
theorem w_726 : Cond.selects RX1 yX1_readChimney yX1_readChimney ∈ lw_g := lw_g_of (List.mem_of_getElem? (i := 726) (by decide +kernel)) rfl
theorem w_727 : Cond.code yX1_readChimney cX1_readChimney 10 none ∈ lw_g := lw_g_of (List.mem_of_getElem? (i := 727) (by decide +kernel)) rfl
theorem w_734 : Cond.methodLink RX1 106 yX5_isFull ∈ lw_g := lw_g_of (List.mem_of_getElem? (i := 734) (by decide +kernel)) rfl
theorem w_735 : Cond.methodLink RX1 113 yX5_raise ∈ lw_g := lw_g_of (List.mem_of_getElem? (i := 735) (by decide +kernel)) rfl
theorem w_736 : Cond.methodLink RX1 45 yX4_fail ∈ lw_g := lw_g_of (List.mem_of_getElem? (i := 736) (by decide +kernel)) rfl
theorem w_737 : Cond.methodLink RX1 38 yX4_passSign ∈ lw_g := lw_g_of (List.mem_of_getElem? (i := 737) (by decide +kernel)) rfl
theorem w_738 : Cond.instanceMethod yX4_passSign ∈ lw_g := lw_g_of (List.mem_of_getElem? (i := 738) (by decide +kernel)) rfl
theorem w_739 : Cond.selects RX4 yX4_passSign yX4_passSign ∈ lw_g := lw_g_of (List.mem_of_getElem? (i := 739) (by decide +kernel)) rfl
theorem w_740 : Cond.code yX4_passSign cX4_passSign 1 (some .boolean) ∈ lw_g := lw_g_of (List.mem_of_getElem? (i := 740) (by decide +kernel)) rfl
theorem w_741 : Cond.methodLink RX6 260 yX4_hasFault ∈ lw_g := lw_g_of (List.mem_of_getElem? (i := 741) (by decide +kernel)) rfl
theorem w_743 : Cond.methodLink RL 142 yX6_hold ∈ lw_g := lw_g_of (List.mem_of_getElem? (i := 743) (by decide +kernel)) rfl
theorem w_744 : Cond.instanceMethod yX6_hold ∈ lw_g := lw_g_of (List.mem_of_getElem? (i := 744) (by decide +kernel)) rfl
theorem w_745 : Cond.selects RX6 yX6_hold yX6_hold ∈ lw_g := lw_g_of (List.mem_of_getElem? (i := 745) (by decide +kernel)) rfl
theorem w_746 : Cond.code yX6_hold cX6_hold 3 (some .int) ∈ lw_g := lw_g_of (List.mem_of_getElem? (i := 746) (by decide +kernel)) rfl
theorem w_747 : Cond.methodLink RX6 266 yX6_isSpot ∈ lw_g := lw_g_of (List.mem_of_getElem? (i := 747) (by decide +kernel)) rfl
theorem w_748 : Cond.static yX6_isSpot ∈ lw_g := lw_g_of (List.mem_of_getElem? (i := 748) (by decide +kernel)) rfl
theorem w_749 : Cond.code yX6_isSpot cX6_isSpot 1 (some .boolean) ∈ lw_g := lw_g_of (List.mem_of_getElem? (i := 749) (by decide +kernel)) rfl
theorem w_750 : Cond.methodLink RL 146 yX6_as ∈ lw_g := lw_g_of (List.mem_of_getElem? (i := 750) (by decide +kernel)) rfl
theorem w_751 : Cond.instanceMethod yX6_as ∈ lw_g := lw_g_of (List.mem_of_getElem? (i := 751) (by decide +kernel)) rfl
theorem w_752 : Cond.selects RX6 yX6_as yX6_as ∈ lw_g := lw_g_of (List.mem_of_getElem? (i := 752) (by decide +kernel)) rfl
theorem w_753 : Cond.code yX6_as cX6_as 4 (some .int) ∈ lw_g := lw_g_of (List.mem_of_getElem? (i := 753) (by decide +kernel)) rfl
theorem w_754 : Cond.methodLink RL 150 yX6_sheet ∈ lw_g := lw_g_of (List.mem_of_getElem? (i := 754) (by decide +kernel)) rfl
theorem w_755 : Cond.instanceMethod yX6_sheet ∈ lw_g := lw_g_of (List.mem_of_getElem? (i := 755) (by decide +kernel)) rfl
theorem w_756 : Cond.selects RX6 yX6_sheet yX6_sheet ∈ lw_g := lw_g_of (List.mem_of_getElem? (i := 756) (by decide +kernel)) rfl
theorem w_757 : Cond.code yX6_sheet cX6_sheet 4 (some .int) ∈ lw_g := lw_g_of (List.mem_of_getElem? (i := 757) (by decide +kernel)) rfl
theorem w_758 : Cond.methodLink RX6 272 yX6_isSheet ∈ lw_g := lw_g_of (List.mem_of_getElem? (i := 758) (by decide +kernel)) rfl
theorem w_759 : Cond.static yX6_isSheet ∈ lw_g := lw_g_of (List.mem_of_getElem? (i := 759) (by decide +kernel)) rfl
theorem w_760 : Cond.code yX6_isSheet cX6_isSheet 1 (some .boolean) ∈ lw_g := lw_g_of (List.mem_of_getElem? (i := 760) (by decide +kernel)) rfl
theorem w_761 : Cond.methodLink RX6 275 yX2_begin ∈ lw_g := lw_g_of (List.mem_of_getElem? (i := 761) (by decide +kernel)) rfl
theorem w_762 : Cond.instanceMethod yX2_begin ∈ lw_g := lw_g_of (List.mem_of_getElem? (i := 762) (by decide +kernel)) rfl
theorem w_763 : Cond.selects RX2 yX2_begin yX2_begin ∈ lw_g := lw_g_of (List.mem_of_getElem? (i := 763) (by decide +kernel)) rfl
theorem w_764 : Cond.code yX2_begin cX2_begin 3 none ∈ lw_g := lw_g_of (List.mem_of_getElem? (i := 764) (by decide +kernel)) rfl
theorem w_765 : Cond.methodLink RX2 22 yJ7_fill_53178 ∈ lw_g := lw_g_of (List.mem_of_getElem? (i := 765) (by decide +kernel)) rfl
theorem w_766 : Cond.methodLink RL 154 yX6_write ∈ lw_g := lw_g_of (List.mem_of_getElem? (i := 766) (by decide +kernel)) rfl
theorem w_767 : Cond.instanceMethod yX6_write ∈ lw_g := lw_g_of (List.mem_of_getElem? (i := 767) (by decide +kernel)) rfl
theorem w_768 : Cond.selects RX6 yX6_write yX6_write ∈ lw_g := lw_g_of (List.mem_of_getElem? (i := 768) (by decide +kernel)) rfl
theorem w_769 : Cond.code yX6_write cX6_write 4 (some .int) ∈ lw_g := lw_g_of (List.mem_of_getElem? (i := 769) (by decide +kernel)) rfl
theorem w_770 : Cond.methodLink RX6 278 yX2_isMissing ∈ lw_g := lw_g_of (List.mem_of_getElem? (i := 770) (by decide +kernel)) rfl
theorem w_771 : Cond.instanceMethod yX2_isMissing ∈ lw_g := lw_g_of (List.mem_of_getElem? (i := 771) (by decide +kernel)) rfl
theorem w_772 : Cond.selects RX2 yX2_isMissing yX2_isMissing ∈ lw_g := lw_g_of (List.mem_of_getElem? (i := 772) (by decide +kernel)) rfl
theorem w_773 : Cond.code yX2_isMissing cX2_isMissing 1 (some .boolean) ∈ lw_g := lw_g_of (List.mem_of_getElem? (i := 773) (by decide +kernel)) rfl
theorem w_774 : Cond.methodLink RX6 281 yX2_put ∈ lw_g := lw_g_of (List.mem_of_getElem? (i := 774) (by decide +kernel)) rfl
theorem w_775 : Cond.instanceMethod yX2_put ∈ lw_g := lw_g_of (List.mem_of_getElem? (i := 775) (by decide +kernel)) rfl
theorem w_776 : Cond.selects RX2 yX2_put yX2_put ∈ lw_g := lw_g_of (List.mem_of_getElem? (i := 776) (by decide +kernel)) rfl
theorem w_777 : Cond.code yX2_put cX2_put 3 none ∈ lw_g := lw_g_of (List.mem_of_getElem? (i := 777) (by decide +kernel)) rfl
theorem w_778 : Cond.methodLink RL 158 yX6_copy ∈ lw_g := lw_g_of (List.mem_of_getElem? (i := 778) (by decide +kernel)) rfl
theorem w_779 : Cond.instanceMethod yX6_copy ∈ lw_g := lw_g_of (List.mem_of_getElem? (i := 779) (by decide +kernel)) rfl
theorem w_780 : Cond.selects RX6 yX6_copy yX6_copy ∈ lw_g := lw_g_of (List.mem_of_getElem? (i := 780) (by decide +kernel)) rfl
theorem w_781 : Cond.code yX6_copy cX6_copy 6 (some .int) ∈ lw_g := lw_g_of (List.mem_of_getElem? (i := 781) (by decide +kernel)) rfl
theorem w_782 : Cond.methodLink RX6 287 yX2_hasPart ∈ lw_g := lw_g_of (List.mem_of_getElem? (i := 782) (by decide +kernel)) rfl
theorem w_783 : Cond.instanceMethod yX2_hasPart ∈ lw_g := lw_g_of (List.mem_of_getElem? (i := 783) (by decide +kernel)) rfl
theorem w_784 : Cond.selects RX2 yX2_hasPart yX2_hasPart ∈ lw_g := lw_g_of (List.mem_of_getElem? (i := 784) (by decide +kernel)) rfl
theorem w_785 : Cond.code yX2_hasPart cX2_hasPart 3 (some .boolean) ∈ lw_g := lw_g_of (List.mem_of_getElem? (i := 785) (by decide +kernel)) rfl
theorem w_786 : Cond.methodLink RL 163 yX6_load ∈ lw_g := lw_g_of (List.mem_of_getElem? (i := 786) (by decide +kernel)) rfl
theorem w_787 : Cond.instanceMethod yX6_load ∈ lw_g := lw_g_of (List.mem_of_getElem? (i := 787) (by decide +kernel)) rfl
theorem w_788 : Cond.selects RX6 yX6_load yX6_load ∈ lw_g := lw_g_of (List.mem_of_getElem? (i := 788) (by decide +kernel)) rfl
theorem w_789 : Cond.code yX6_load cX6_load 5 (some .int) ∈ lw_g := lw_g_of (List.mem_of_getElem? (i := 789) (by decide +kernel)) rfl
theorem w_790 : Cond.methodLink RX6 293 yJ9_min_7cf53 ∈ lw_g := lw_g_of (List.mem_of_getElem? (i := 790) (by decide +kernel)) rfl
theorem w_791 : Cond.methodLink RL 167 yX6_judge ∈ lw_g := lw_g_of (List.mem_of_getElem? (i := 791) (by decide +kernel)) rfl
theorem w_792 : Cond.instanceMethod yX6_judge ∈ lw_g := lw_g_of (List.mem_of_getElem? (i := 792) (by decide +kernel)) rfl
theorem w_793 : Cond.selects RX6 yX6_judge yX6_judge ∈ lw_g := lw_g_of (List.mem_of_getElem? (i := 793) (by decide +kernel)) rfl
theorem w_794 : Cond.code yX6_judge cX6_judge 4 (some .int) ∈ lw_g := lw_g_of (List.mem_of_getElem? (i := 794) (by decide +kernel)) rfl
theorem w_795 : Cond.methodLink RX6 296 yX6_playByHour ∈ lw_g := lw_g_of (List.mem_of_getElem? (i := 795) (by decide +kernel)) rfl
theorem w_797 : Cond.instanceMethod yX6_playByHour ∈ lw_g := lw_g_of (List.mem_of_getElem? (i := 797) (by decide +kernel)) rfl
theorem w_798 : Cond.code yX6_playByHour cX6_playByHour 5 none ∈ lw_g := lw_g_of (List.mem_of_getElem? (i := 798) (by decide +kernel)) rfl
theorem w_799 : Cond.methodLink RL 171 yX6_image ∈ lw_g := lw_g_of (List.mem_of_getElem? (i := 799) (by decide +kernel)) rfl
theorem w_800 : Cond.instanceMethod yX6_image ∈ lw_g := lw_g_of (List.mem_of_getElem? (i := 800) (by decide +kernel)) rfl
theorem w_801 : Cond.selects RX6 yX6_image yX6_image ∈ lw_g := lw_g_of (List.mem_of_getElem? (i := 801) (by decide +kernel)) rfl
theorem w_802 : Cond.code yX6_image cX6_image 1 (some .int) ∈ lw_g := lw_g_of (List.mem_of_getElem? (i := 802) (by decide +kernel)) rfl
theorem w_803 : Cond.methodLink RX6 300 yX5_take ∈ lw_g := lw_g_of (List.mem_of_getElem? (i := 803) (by decide +kernel)) rfl
theorem w_804 : Cond.instanceMethod yX5_take ∈ lw_g := lw_g_of (List.mem_of_getElem? (i := 804) (by decide +kernel)) rfl
theorem w_805 : Cond.selects RX5 yX5_take yX5_take ∈ lw_g := lw_g_of (List.mem_of_getElem? (i := 805) (by decide +kernel)) rfl
theorem w_806 : Cond.code yX5_take cX5_take 3 none ∈ lw_g := lw_g_of (List.mem_of_getElem? (i := 806) (by decide +kernel)) rfl
theorem w_807 : Cond.methodLink RX5 47 arraycopyName ∈ lw_g := lw_g_of (List.mem_of_getElem? (i := 807) (by decide +kernel)) rfl
theorem w_808 : Cond.methodLink RX5 53 yX0_take ∈ lw_g := lw_g_of (List.mem_of_getElem? (i := 808) (by decide +kernel)) rfl
theorem w_809 : Cond.methodLink RL 175 yX6_undo ∈ lw_g := lw_g_of (List.mem_of_getElem? (i := 809) (by decide +kernel)) rfl
theorem w_810 : Cond.instanceMethod yX6_undo ∈ lw_g := lw_g_of (List.mem_of_getElem? (i := 810) (by decide +kernel)) rfl
theorem w_811 : Cond.selects RX6 yX6_undo yX6_undo ∈ lw_g := lw_g_of (List.mem_of_getElem? (i := 811) (by decide +kernel)) rfl
theorem w_812 : Cond.code yX6_undo cX6_undo 1 (some .int) ∈ lw_g := lw_g_of (List.mem_of_getElem? (i := 812) (by decide +kernel)) rfl
theorem w_813 : Cond.methodLink RL 179 yX6_tear ∈ lw_g := lw_g_of (List.mem_of_getElem? (i := 813) (by decide +kernel)) rfl
theorem w_814 : Cond.instanceMethod yX6_tear ∈ lw_g := lw_g_of (List.mem_of_getElem? (i := 814) (by decide +kernel)) rfl
theorem w_815 : Cond.selects RX6 yX6_tear yX6_tear ∈ lw_g := lw_g_of (List.mem_of_getElem? (i := 815) (by decide +kernel)) rfl
theorem w_816 : Cond.code yX6_tear cX6_tear 2 (some .int) ∈ lw_g := lw_g_of (List.mem_of_getElem? (i := 816) (by decide +kernel)) rfl
theorem w_817 : Cond.methodLink RL 183 yX6_count ∈ lw_g := lw_g_of (List.mem_of_getElem? (i := 817) (by decide +kernel)) rfl
theorem w_818 : Cond.instanceMethod yX6_count ∈ lw_g := lw_g_of (List.mem_of_getElem? (i := 818) (by decide +kernel)) rfl
theorem w_819 : Cond.selects RX6 yX6_count yX6_count ∈ lw_g := lw_g_of (List.mem_of_getElem? (i := 819) (by decide +kernel)) rfl
theorem w_820 : Cond.code yX6_count cX6_count 2 (some .int) ∈ lw_g := lw_g_of (List.mem_of_getElem? (i := 820) (by decide +kernel)) rfl
theorem w_821 : Cond.methodLink RX6 303 yX6_notBelowZero ∈ lw_g := lw_g_of (List.mem_of_getElem? (i := 821) (by decide +kernel)) rfl
theorem w_822 : Cond.static yX6_notBelowZero ∈ lw_g := lw_g_of (List.mem_of_getElem? (i := 822) (by decide +kernel)) rfl
theorem w_823 : Cond.code yX6_notBelowZero cX6_notBelowZero 3 (some .int) ∈ lw_g := lw_g_of (List.mem_of_getElem? (i := 823) (by decide +kernel)) rfl
theorem w_824 : Cond.methodLink RX6 307 yX6_air ∈ lw_g := lw_g_of (List.mem_of_getElem? (i := 824) (by decide +kernel)) rfl
theorem w_825 : Cond.methodLink RX6 310 yX6_settled ∈ lw_g := lw_g_of (List.mem_of_getElem? (i := 825) (by decide +kernel)) rfl
theorem w_826 : Cond.methodLink RL 187 yX6_status ∈ lw_g := lw_g_of (List.mem_of_getElem? (i := 826) (by decide +kernel)) rfl
theorem w_827 : Cond.instanceMethod yX6_status ∈ lw_g := lw_g_of (List.mem_of_getElem? (i := 827) (by decide +kernel)) rfl
theorem w_828 : Cond.selects RX6 yX6_status yX6_status ∈ lw_g := lw_g_of (List.mem_of_getElem? (i := 828) (by decide +kernel)) rfl
theorem w_829 : Cond.code yX6_status cX6_status 4 (some .int) ∈ lw_g := lw_g_of (List.mem_of_getElem? (i := 829) (by decide +kernel)) rfl
theorem w_830 : Cond.classLink RL 10 RX7 ∈ lw_g := lw_g_of (List.mem_of_getElem? (i := 830) (by decide +kernel)) rfl
theorem w_831 : Cond.instantiable RX7 21 ∈ lw_g := lw_g_of (List.mem_of_getElem? (i := 831) (by decide +kernel)) rfl
theorem w_832 : Cond.methodLink RL 12 yX7_init ∈ lw_g := lw_g_of (List.mem_of_getElem? (i := 832) (by decide +kernel)) rfl
theorem w_833 : Cond.instanceMethod yX7_init ∈ lw_g := lw_g_of (List.mem_of_getElem? (i := 833) (by decide +kernel)) rfl
theorem w_834 : Cond.code yX7_init cX7_init 2 none ∈ lw_g := lw_g_of (List.mem_of_getElem? (i := 834) (by decide +kernel)) rfl
theorem w_835 : Cond.methodLink RX7 1 Lib.objectInit ∈ lw_g := lw_g_of (List.mem_of_getElem? (i := 835) (by decide +kernel)) rfl
theorem w_836 : Cond.fieldLink RX7 7 RX7 "s" "[I" ∈ lw_g := lw_g_of (List.mem_of_getElem? (i := 836) (by decide +kernel)) rfl
theorem w_837 : Cond.fieldLink RX7 13 RX7 "keptS" "[I" ∈ lw_g := lw_g_of (List.mem_of_getElem? (i := 837) (by decide +kernel)) rfl
theorem w_838 : Cond.fieldLink RX7 16 RX7 "other" "[I" ∈ lw_g := lw_g_of (List.mem_of_getElem? (i := 838) (by decide +kernel)) rfl
theorem w_839 : Cond.fieldLink RX7 19 RX7 "statuses" "[I" ∈ lw_g := lw_g_of (List.mem_of_getElem? (i := 839) (by decide +kernel)) rfl
theorem w_840 : Cond.fieldLink RX7 303 RX7 "isKept" "Z" ∈ lw_g := lw_g_of (List.mem_of_getElem? (i := 840) (by decide +kernel)) rfl
theorem w_841 : Cond.fieldLink RX7 22 RX7 "moved" "[I" ∈ lw_g := lw_g_of (List.mem_of_getElem? (i := 841) (by decide +kernel)) rfl
theorem w_842 : Cond.fieldLink RX7 25 RX7 "dirt" "[I" ∈ lw_g := lw_g_of (List.mem_of_getElem? (i := 842) (by decide +kernel)) rfl
theorem w_843 : Cond.fieldLink RX7 126 RX7 "lookedAt" "I" ∈ lw_g := lw_g_of (List.mem_of_getElem? (i := 843) (by decide +kernel)) rfl
theorem w_844 : Cond.fieldLink RX7 130 RX7 "lookedFor" "I" ∈ lw_g := lw_g_of (List.mem_of_getElem? (i := 844) (by decide +kernel)) rfl
theorem w_845 : Cond.fieldLink RX7 122 RX7 "isReached" "Z" ∈ lw_g := lw_g_of (List.mem_of_getElem? (i := 845) (by decide +kernel)) rfl
theorem w_846 : Cond.fieldLink RX7 28 RX7 "books" "[I" ∈ lw_g := lw_g_of (List.mem_of_getElem? (i := 846) (by decide +kernel)) rfl
theorem w_847 : Cond.fieldLink RX7 31 RX7 "tape" "[I" ∈ lw_g := lw_g_of (List.mem_of_getElem? (i := 847) (by decide +kernel)) rfl
theorem w_848 : Cond.fieldLink RX7 192 RX7 "taped" "I" ∈ lw_g := lw_g_of (List.mem_of_getElem? (i := 848) (by decide +kernel)) rfl
theorem w_849 : Cond.fieldLink RX7 204 RX7 "from" "I" ∈ lw_g := lw_g_of (List.mem_of_getElem? (i := 849) (by decide +kernel)) rfl
theorem w_850 : Cond.fieldLink RX7 201 RX7 "to" "I" ∈ lw_g := lw_g_of (List.mem_of_getElem? (i := 850) (by decide +kernel)) rfl
theorem w_851 : Cond.fieldLink RX7 226 RX7 "value" "I" ∈ lw_g := lw_g_of (List.mem_of_getElem? (i := 851) (by decide +kernel)) rfl
theorem w_852 : Cond.fieldLink RX7 216 RX7 "isWrong" "Z" ∈ lw_g := lw_g_of (List.mem_of_getElem? (i := 852) (by decide +kernel)) rfl
theorem w_853 : Cond.fieldLink RX7 34 RX7 "bitsOf" "[I" ∈ lw_g := lw_g_of (List.mem_of_getElem? (i := 853) (by decide +kernel)) rfl
theorem w_854 : Cond.fieldLink RX7 37 RX7 "sizeOf" "[I" ∈ lw_g := lw_g_of (List.mem_of_getElem? (i := 854) (by decide +kernel)) rfl
theorem w_855 : Cond.fieldLink RX7 40 RX7 "number" "[I" ∈ lw_g := lw_g_of (List.mem_of_getElem? (i := 855) (by decide +kernel)) rfl
theorem w_856 : Cond.fieldLink RX7 43 RX7 "shifted" "[I" ∈ lw_g := lw_g_of (List.mem_of_getElem? (i := 856) (by decide +kernel)) rfl
theorem w_857 : Cond.laysFinal RX7 RX7 "s" "[I" ∈ lw_g := lw_g_of (List.mem_of_getElem? (i := 857) (by decide +kernel)) rfl
theorem w_859 : Cond.laysFinal RX7 RX7 "keptS" "[I" ∈ lw_g := lw_g_of (List.mem_of_getElem? (i := 859) (by decide +kernel)) rfl
theorem w_861 : Cond.laysFinal RX7 RX7 "other" "[I" ∈ lw_g := lw_g_of (List.mem_of_getElem? (i := 861) (by decide +kernel)) rfl
theorem w_863 : Cond.laysFinal RX7 RX7 "statuses" "[I" ∈ lw_g := lw_g_of (List.mem_of_getElem? (i := 863) (by decide +kernel)) rfl
theorem w_865 : Cond.lays RX7 RX7 "isKept" "Z" ∈ lw_g := lw_g_of (List.mem_of_getElem? (i := 865) (by decide +kernel)) rfl
theorem w_867 : Cond.laysFinal RX7 RX7 "moved" "[I" ∈ lw_g := lw_g_of (List.mem_of_getElem? (i := 867) (by decide +kernel)) rfl
theorem w_869 : Cond.laysFinal RX7 RX7 "dirt" "[I" ∈ lw_g := lw_g_of (List.mem_of_getElem? (i := 869) (by decide +kernel)) rfl
theorem w_871 : Cond.lays RX7 RX7 "lookedAt" "I" ∈ lw_g := lw_g_of (List.mem_of_getElem? (i := 871) (by decide +kernel)) rfl
theorem w_873 : Cond.lays RX7 RX7 "lookedFor" "I" ∈ lw_g := lw_g_of (List.mem_of_getElem? (i := 873) (by decide +kernel)) rfl
theorem w_875 : Cond.lays RX7 RX7 "isReached" "Z" ∈ lw_g := lw_g_of (List.mem_of_getElem? (i := 875) (by decide +kernel)) rfl
theorem w_877 : Cond.laysFinal RX7 RX7 "books" "[I" ∈ lw_g := lw_g_of (List.mem_of_getElem? (i := 877) (by decide +kernel)) rfl
theorem w_879 : Cond.laysFinal RX7 RX7 "tape" "[I" ∈ lw_g := lw_g_of (List.mem_of_getElem? (i := 879) (by decide +kernel)) rfl
theorem w_881 : Cond.lays RX7 RX7 "taped" "I" ∈ lw_g := lw_g_of (List.mem_of_getElem? (i := 881) (by decide +kernel)) rfl
theorem w_883 : Cond.lays RX7 RX7 "from" "I" ∈ lw_g := lw_g_of (List.mem_of_getElem? (i := 883) (by decide +kernel)) rfl
theorem w_885 : Cond.lays RX7 RX7 "to" "I" ∈ lw_g := lw_g_of (List.mem_of_getElem? (i := 885) (by decide +kernel)) rfl
theorem w_887 : Cond.lays RX7 RX7 "value" "I" ∈ lw_g := lw_g_of (List.mem_of_getElem? (i := 887) (by decide +kernel)) rfl
theorem w_889 : Cond.lays RX7 RX7 "isWrong" "Z" ∈ lw_g := lw_g_of (List.mem_of_getElem? (i := 889) (by decide +kernel)) rfl
theorem w_891 : Cond.laysFinal RX7 RX7 "bitsOf" "[I" ∈ lw_g := lw_g_of (List.mem_of_getElem? (i := 891) (by decide +kernel)) rfl
theorem w_893 : Cond.laysFinal RX7 RX7 "sizeOf" "[I" ∈ lw_g := lw_g_of (List.mem_of_getElem? (i := 893) (by decide +kernel)) rfl
theorem w_895 : Cond.laysFinal RX7 RX7 "number" "[I" ∈ lw_g := lw_g_of (List.mem_of_getElem? (i := 895) (by decide +kernel)) rfl
theorem w_897 : Cond.laysFinal RX7 RX7 "shifted" "[I" ∈ lw_g := lw_g_of (List.mem_of_getElem? (i := 897) (by decide +kernel)) rfl
theorem w_900 : Cond.methodLink RL 17 yX7_roof ∈ lw_g := lw_g_of (List.mem_of_getElem? (i := 900) (by decide +kernel)) rfl
theorem w_901 : Cond.instanceMethod yX7_roof ∈ lw_g := lw_g_of (List.mem_of_getElem? (i := 901) (by decide +kernel)) rfl
theorem w_902 : Cond.selects RX7 yX7_roof yX7_roof ∈ lw_g := lw_g_of (List.mem_of_getElem? (i := 902) (by decide +kernel)) rfl
theorem w_903 : Cond.code yX7_roof cX7_roof 4 (some .int) ∈ lw_g := lw_g_of (List.mem_of_getElem? (i := 903) (by decide +kernel)) rfl
theorem w_904 : Cond.methodLink RX7 58 yX7_isCell ∈ lw_g := lw_g_of (List.mem_of_getElem? (i := 904) (by decide +kernel)) rfl
theorem w_905 : Cond.static yX7_isCell ∈ lw_g := lw_g_of (List.mem_of_getElem? (i := 905) (by decide +kernel)) rfl
theorem w_906 : Cond.code yX7_isCell cX7_isCell 1 (some .boolean) ∈ lw_g := lw_g_of (List.mem_of_getElem? (i := 906) (by decide +kernel)) rfl
theorem w_907 : Cond.constantLong RX7 47 (35) ∈ lw_g := lw_g_of (List.mem_of_getElem? (i := 907) (by decide +kernel)) rfl
theorem w_908 : Cond.methodLink RX7 49 yX7_in ∈ lw_g := lw_g_of (List.mem_of_getElem? (i := 908) (by decide +kernel)) rfl
theorem w_909 : Cond.static yX7_in ∈ lw_g := lw_g_of (List.mem_of_getElem? (i := 909) (by decide +kernel)) rfl
theorem w_910 : Cond.code yX7_in cX7_in 6 (some .boolean) ∈ lw_g := lw_g_of (List.mem_of_getElem? (i := 910) (by decide +kernel)) rfl
theorem w_911 : Cond.constantLong RX7 62 (-1) ∈ lw_g := lw_g_of (List.mem_of_getElem? (i := 911) (by decide +kernel)) rfl
theorem w_912 : Cond.constantLong RX7 53 (5) ∈ lw_g := lw_g_of (List.mem_of_getElem? (i := 912) (by decide +kernel)) rfl
theorem w_913 : Cond.constant RX7 46 (-1000001) ∈ lw_g := lw_g_of (List.mem_of_getElem? (i := 913) (by decide +kernel)) rfl
theorem w_914 : Cond.methodLink RX7 64 yX7_finds ∈ lw_g := lw_g_of (List.mem_of_getElem? (i := 914) (by decide +kernel)) rfl
theorem w_916 : Cond.instanceMethod yX7_finds ∈ lw_g := lw_g_of (List.mem_of_getElem? (i := 916) (by decide +kernel)) rfl
theorem w_917 : Cond.code yX7_finds cX7_finds 2 (some .int) ∈ lw_g := lw_g_of (List.mem_of_getElem? (i := 917) (by decide +kernel)) rfl
theorem w_918 : Cond.methodLink RL 21 yX7_wind ∈ lw_g := lw_g_of (List.mem_of_getElem? (i := 918) (by decide +kernel)) rfl
theorem w_919 : Cond.instanceMethod yX7_wind ∈ lw_g := lw_g_of (List.mem_of_getElem? (i := 919) (by decide +kernel)) rfl
theorem w_920 : Cond.selects RX7 yX7_wind yX7_wind ∈ lw_g := lw_g_of (List.mem_of_getElem? (i := 920) (by decide +kernel)) rfl
theorem w_921 : Cond.code yX7_wind cX7_wind 4 (some .int) ∈ lw_g := lw_g_of (List.mem_of_getElem? (i := 921) (by decide +kernel)) rfl
theorem w_922 : Cond.methodLink RX7 68 yX7_isClock ∈ lw_g := lw_g_of (List.mem_of_getElem? (i := 922) (by decide +kernel)) rfl
theorem w_923 : Cond.static yX7_isClock ∈ lw_g := lw_g_of (List.mem_of_getElem? (i := 923) (by decide +kernel)) rfl
theorem w_924 : Cond.code yX7_isClock cX7_isClock 1 (some .boolean) ∈ lw_g := lw_g_of (List.mem_of_getElem? (i := 924) (by decide +kernel)) rfl
theorem w_925 : Cond.constantLong RX7 55 (23) ∈ lw_g := lw_g_of (List.mem_of_getElem? (i := 925) (by decide +kernel)) rfl
theorem w_926 : Cond.constantLong RX7 71 (4) ∈ lw_g := lw_g_of (List.mem_of_getElem? (i := 926) (by decide +kernel)) rfl
theorem w_927 : Cond.methodLink RL 26 yX7_chimney ∈ lw_g := lw_g_of (List.mem_of_getElem? (i := 927) (by decide +kernel)) rfl
theorem w_928 : Cond.instanceMethod yX7_chimney ∈ lw_g := lw_g_of (List.mem_of_getElem? (i := 928) (by decide +kernel)) rfl
theorem w_929 : Cond.selects RX7 yX7_chimney yX7_chimney ∈ lw_g := lw_g_of (List.mem_of_getElem? (i := 929) (by decide +kernel)) rfl
theorem w_930 : Cond.code yX7_chimney cX7_chimney 4 (some .int) ∈ lw_g := lw_g_of (List.mem_of_getElem? (i := 930) (by decide +kernel)) rfl
theorem w_931 : Cond.constantLong RX7 77 (6) ∈ lw_g := lw_g_of (List.mem_of_getElem? (i := 931) (by decide +kernel)) rfl
theorem w_932 : Cond.methodLink RX7 79 yX7_isOwner ∈ lw_g := lw_g_of (List.mem_of_getElem? (i := 932) (by decide +kernel)) rfl
theorem w_933 : Cond.static yX7_isOwner ∈ lw_g := lw_g_of (List.mem_of_getElem? (i := 933) (by decide +kernel)) rfl
theorem w_934 : Cond.code yX7_isOwner cX7_isOwner 1 (some .boolean) ∈ lw_g := lw_g_of (List.mem_of_getElem? (i := 934) (by decide +kernel)) rfl
theorem w_935 : Cond.constant RX7 82 (-1000002) ∈ lw_g := lw_g_of (List.mem_of_getElem? (i := 935) (by decide +kernel)) rfl
theorem w_936 : Cond.methodLink RX7 83 yX7_newChimney ∈ lw_g := lw_g_of (List.mem_of_getElem? (i := 936) (by decide +kernel)) rfl
theorem w_938 : Cond.instanceMethod yX7_newChimney ∈ lw_g := lw_g_of (List.mem_of_getElem? (i := 938) (by decide +kernel)) rfl
theorem w_939 : Cond.code yX7_newChimney cX7_newChimney 5 (some .int) ∈ lw_g := lw_g_of (List.mem_of_getElem? (i := 939) (by decide +kernel)) rfl
theorem w_940 : Cond.methodLink RX7 73 yX7_at ∈ lw_g := lw_g_of (List.mem_of_getElem? (i := 940) (by decide +kernel)) rfl
theorem w_941 : Cond.static yX7_at ∈ lw_g := lw_g_of (List.mem_of_getElem? (i := 941) (by decide +kernel)) rfl
theorem w_942 : Cond.code yX7_at cX7_at 2 (some .int) ∈ lw_g := lw_g_of (List.mem_of_getElem? (i := 942) (by decide +kernel)) rfl
theorem w_943 : Cond.methodLink RL 30 yX7_of ∈ lw_g := lw_g_of (List.mem_of_getElem? (i := 943) (by decide +kernel)) rfl
theorem w_944 : Cond.instanceMethod yX7_of ∈ lw_g := lw_g_of (List.mem_of_getElem? (i := 944) (by decide +kernel)) rfl
theorem w_945 : Cond.selects RX7 yX7_of yX7_of ∈ lw_g := lw_g_of (List.mem_of_getElem? (i := 945) (by decide +kernel)) rfl
theorem w_946 : Cond.code yX7_of cX7_of 3 (some .int) ∈ lw_g := lw_g_of (List.mem_of_getElem? (i := 946) (by decide +kernel)) rfl
theorem w_947 : Cond.methodLink RX7 97 yX7_isChimney ∈ lw_g := lw_g_of (List.mem_of_getElem? (i := 947) (by decide +kernel)) rfl
theorem w_949 : Cond.instanceMethod yX7_isChimney ∈ lw_g := lw_g_of (List.mem_of_getElem? (i := 949) (by decide +kernel)) rfl
theorem w_950 : Cond.code yX7_isChimney cX7_isChimney 2 (some .boolean) ∈ lw_g := lw_g_of (List.mem_of_getElem? (i := 950) (by decide +kernel)) rfl
theorem w_951 : Cond.constantLong RX7 100 (9) ∈ lw_g := lw_g_of (List.mem_of_getElem? (i := 951) (by decide +kernel)) rfl
theorem w_952 : Cond.methodLink RX7 87 yX7_its ∈ lw_g := lw_g_of (List.mem_of_getElem? (i := 952) (by decide +kernel)) rfl
theorem w_954 : Cond.instanceMethod yX7_its ∈ lw_g := lw_g_of (List.mem_of_getElem? (i := 954) (by decide +kernel)) rfl
theorem w_955 : Cond.code yX7_its cX7_its 3 (some .int) ∈ lw_g := lw_g_of (List.mem_of_getElem? (i := 955) (by decide +kernel)) rfl
theorem w_956 : Cond.methodLink RX7 102 yX7_worth ∈ lw_g := lw_g_of (List.mem_of_getElem? (i := 956) (by decide +kernel)) rfl
theorem w_958 : Cond.instanceMethod yX7_worth ∈ lw_g := lw_g_of (List.mem_of_getElem? (i := 958) (by decide +kernel)) rfl
theorem w_959 : Cond.code yX7_worth cX7_worth 2 (some .int) ∈ lw_g := lw_g_of (List.mem_of_getElem? (i := 959) (by decide +kernel)) rfl
theorem w_960 : Cond.methodLink RX7 105 yX7_sooty ∈ lw_g := lw_g_of (List.mem_of_getElem? (i := 960) (by decide +kernel)) rfl
theorem w_962 : Cond.instanceMethod yX7_sooty ∈ lw_g := lw_g_of (List.mem_of_getElem? (i := 962) (by decide +kernel)) rfl
theorem w_963 : Cond.code yX7_sooty cX7_sooty 4 (some .int) ∈ lw_g := lw_g_of (List.mem_of_getElem? (i := 963) (by decide +kernel)) rfl
theorem w_964 : Cond.methodLink RX7 108 yX7_burns ∈ lw_g := lw_g_of (List.mem_of_getElem? (i := 964) (by decide +kernel)) rfl
theorem w_966 : Cond.instanceMethod yX7_burns ∈ lw_g := lw_g_of (List.mem_of_getElem? (i := 966) (by decide +kernel)) rfl
theorem w_967 : Cond.code yX7_burns cX7_burns 3 (some .int) ∈ lw_g := lw_g_of (List.mem_of_getElem? (i := 967) (by decide +kernel)) rfl
theorem w_968 : Cond.methodLink RX7 90 yX7_isLit ∈ lw_g := lw_g_of (List.mem_of_getElem? (i := 968) (by decide +kernel)) rfl
theorem w_970 : Cond.instanceMethod yX7_isLit ∈ lw_g := lw_g_of (List.mem_of_getElem? (i := 970) (by decide +kernel)) rfl
theorem w_971 : Cond.code yX7_isLit cX7_isLit 3 (some .boolean) ∈ lw_g := lw_g_of (List.mem_of_getElem? (i := 971) (by decide +kernel)) rfl
theorem w_972 : Cond.methodLink RX7 94 yX7_burnsAt ∈ lw_g := lw_g_of (List.mem_of_getElem? (i := 972) (by decide +kernel)) rfl
theorem w_974 : Cond.instanceMethod yX7_burnsAt ∈ lw_g := lw_g_of (List.mem_of_getElem? (i := 974) (by decide +kernel)) rfl
theorem w_975 : Cond.code yX7_burnsAt cX7_burnsAt 4 (some .int) ∈ lw_g := lw_g_of (List.mem_of_getElem? (i := 975) (by decide +kernel)) rfl
theorem w_976 : Cond.methodLink RL 34 yX7_change ∈ lw_g := lw_g_of (List.mem_of_getElem? (i := 976) (by decide +kernel)) rfl
theorem w_977 : Cond.instanceMethod yX7_change ∈ lw_g := lw_g_of (List.mem_of_getElem? (i := 977) (by decide +kernel)) rfl
theorem w_978 : Cond.selects RX7 yX7_change yX7_change ∈ lw_g := lw_g_of (List.mem_of_getElem? (i := 978) (by decide +kernel)) rfl
theorem w_979 : Cond.code yX7_change cX7_change 5 (some .int) ∈ lw_g := lw_g_of (List.mem_of_getElem? (i := 979) (by decide +kernel)) rfl
theorem w_980 : Cond.methodLink RX7 111 yX7_mostOf ∈ lw_g := lw_g_of (List.mem_of_getElem? (i := 980) (by decide +kernel)) rfl
theorem w_981 : Cond.static yX7_mostOf ∈ lw_g := lw_g_of (List.mem_of_getElem? (i := 981) (by decide +kernel)) rfl
theorem w_982 : Cond.code yX7_mostOf cX7_mostOf 1 (some .int) ∈ lw_g := lw_g_of (List.mem_of_getElem? (i := 982) (by decide +kernel)) rfl
theorem w_983 : Cond.methodLink RL 39 yX7_book ∈ lw_g := lw_g_of (List.mem_of_getElem? (i := 983) (by decide +kernel)) rfl
theorem w_984 : Cond.instanceMethod yX7_book ∈ lw_g := lw_g_of (List.mem_of_getElem? (i := 984) (by decide +kernel)) rfl
theorem w_985 : Cond.selects RX7 yX7_book yX7_book ∈ lw_g := lw_g_of (List.mem_of_getElem? (i := 985) (by decide +kernel)) rfl
theorem w_986 : Cond.code yX7_book cX7_book 2 (some .int) ∈ lw_g := lw_g_of (List.mem_of_getElem? (i := 986) (by decide +kernel)) rfl
theorem w_987 : Cond.methodLink RL 44 yX7_strike ∈ lw_g := lw_g_of (List.mem_of_getElem? (i := 987) (by decide +kernel)) rfl
theorem w_988 : Cond.instanceMethod yX7_strike ∈ lw_g := lw_g_of (List.mem_of_getElem? (i := 988) (by decide +kernel)) rfl
theorem w_989 : Cond.selects RX7 yX7_strike yX7_strike ∈ lw_g := lw_g_of (List.mem_of_getElem? (i := 989) (by decide +kernel)) rfl
theorem w_990 : Cond.code yX7_strike cX7_strike 3 (some .int) ∈ lw_g := lw_g_of (List.mem_of_getElem? (i := 990) (by decide +kernel)) rfl
theorem w_991 : Cond.methodLink RL 48 yX7_air ∈ lw_g := lw_g_of (List.mem_of_getElem? (i := 991) (by decide +kernel)) rfl
theorem w_992 : Cond.instanceMethod yX7_air ∈ lw_g := lw_g_of (List.mem_of_getElem? (i := 992) (by decide +kernel)) rfl
theorem w_993 : Cond.selects RX7 yX7_air yX7_air ∈ lw_g := lw_g_of (List.mem_of_getElem? (i := 993) (by decide +kernel)) rfl
theorem w_994 : Cond.code yX7_air cX7_air 3 (some .int) ∈ lw_g := lw_g_of (List.mem_of_getElem? (i := 994) (by decide +kernel)) rfl
theorem w_995 : Cond.methodLink RX7 114 yX7_sums ∈ lw_g := lw_g_of (List.mem_of_getElem? (i := 995) (by decide +kernel)) rfl
theorem w_997 : Cond.instanceMethod yX7_sums ∈ lw_g := lw_g_of (List.mem_of_getElem? (i := 997) (by decide +kernel)) rfl
theorem w_998 : Cond.code yX7_sums cX7_sums 7 (some .int) ∈ lw_g := lw_g_of (List.mem_of_getElem? (i := 998) (by decide +kernel)) rfl
theorem w_999 : Cond.methodLink RL 52 yX7_settled ∈ lw_g := lw_g_of (List.mem_of_getElem? (i := 999) (by decide +kernel)) rfl
theorem w_1000 : Cond.instanceMethod yX7_settled ∈ lw_g := lw_g_of (List.mem_of_getElem? (i := 1000) (by decide +kernel)) rfl
theorem w_1001 : Cond.selects RX7 yX7_settled yX7_settled ∈ lw_g := lw_g_of (List.mem_of_getElem? (i := 1001) (by decide +kernel)) rfl
theorem w_1002 : Cond.code yX7_settled cX7_settled 3 (some .int) ∈ lw_g := lw_g_of (List.mem_of_getElem? (i := 1002) (by decide +kernel)) rfl
theorem w_1003 : Cond.methodLink RL 56 yX7_parts ∈ lw_g := lw_g_of (List.mem_of_getElem? (i := 1003) (by decide +kernel)) rfl
theorem w_1004 : Cond.instanceMethod yX7_parts ∈ lw_g := lw_g_of (List.mem_of_getElem? (i := 1004) (by decide +kernel)) rfl
theorem w_1005 : Cond.selects RX7 yX7_parts yX7_parts ∈ lw_g := lw_g_of (List.mem_of_getElem? (i := 1005) (by decide +kernel)) rfl
theorem w_1006 : Cond.code yX7_parts cX7_parts 3 (some .int) ∈ lw_g := lw_g_of (List.mem_of_getElem? (i := 1006) (by decide +kernel)) rfl
theorem w_1007 : Cond.constantLong RX7 117 (2) ∈ lw_g := lw_g_of (List.mem_of_getElem? (i := 1007) (by decide +kernel)) rfl
theorem w_1008 : Cond.methodLink RL 60 yX7_thickest ∈ lw_g := lw_g_of (List.mem_of_getElem? (i := 1008) (by decide +kernel)) rfl
theorem w_1009 : Cond.instanceMethod yX7_thickest ∈ lw_g := lw_g_of (List.mem_of_getElem? (i := 1009) (by decide +kernel)) rfl
theorem w_1010 : Cond.selects RX7 yX7_thickest yX7_thickest ∈ lw_g := lw_g_of (List.mem_of_getElem? (i := 1010) (by decide +kernel)) rfl
theorem w_1011 : Cond.code yX7_thickest cX7_thickest 3 (some .int) ∈ lw_g := lw_g_of (List.mem_of_getElem? (i := 1011) (by decide +kernel)) rfl
theorem w_1012 : Cond.methodLink RL 64 yX7_touched ∈ lw_g := lw_g_of (List.mem_of_getElem? (i := 1012) (by decide +kernel)) rfl
theorem w_1013 : Cond.instanceMethod yX7_touched ∈ lw_g := lw_g_of (List.mem_of_getElem? (i := 1013) (by decide +kernel)) rfl
theorem w_1014 : Cond.selects RX7 yX7_touched yX7_touched ∈ lw_g := lw_g_of (List.mem_of_getElem? (i := 1014) (by decide +kernel)) rfl
theorem w_1015 : Cond.code yX7_touched cX7_touched 4 (some .int) ∈ lw_g := lw_g_of (List.mem_of_getElem? (i := 1015) (by decide +kernel)) rfl
theorem w_1016 : Cond.methodLink RL 68 yX7_hours ∈ lw_g := lw_g_of (List.mem_of_getElem? (i := 1016) (by decide +kernel)) rfl
theorem w_1017 : Cond.instanceMethod yX7_hours ∈ lw_g := lw_g_of (List.mem_of_getElem? (i := 1017) (by decide +kernel)) rfl
theorem w_1018 : Cond.selects RX7 yX7_hours yX7_hours ∈ lw_g := lw_g_of (List.mem_of_getElem? (i := 1018) (by decide +kernel)) rfl
theorem w_1019 : Cond.code yX7_hours cX7_hours 2 (some .int) ∈ lw_g := lw_g_of (List.mem_of_getElem? (i := 1019) (by decide +kernel)) rfl
theorem w_1020 : Cond.constantLong RX7 144 (48) ∈ lw_g := lw_g_of (List.mem_of_getElem? (i := 1020) (by decide +kernel)) rfl
theorem w_1021 : Cond.methodLink RX7 146 yX7_isTooFar ∈ lw_g := lw_g_of (List.mem_of_getElem? (i := 1021) (by decide +kernel)) rfl
theorem w_1023 : Cond.instanceMethod yX7_isTooFar ∈ lw_g := lw_g_of (List.mem_of_getElem? (i := 1023) (by decide +kernel)) rfl
theorem w_1024 : Cond.code yX7_isTooFar cX7_isTooFar 2 (some .boolean) ∈ lw_g := lw_g_of (List.mem_of_getElem? (i := 1024) (by decide +kernel)) rfl
theorem w_1025 : Cond.constant RX7 149 (-1000005) ∈ lw_g := lw_g_of (List.mem_of_getElem? (i := 1025) (by decide +kernel)) rfl
theorem w_1026 : Cond.methodLink RX7 150 yX7_hoursGo ∈ lw_g := lw_g_of (List.mem_of_getElem? (i := 1026) (by decide +kernel)) rfl
theorem w_1028 : Cond.instanceMethod yX7_hoursGo ∈ lw_g := lw_g_of (List.mem_of_getElem? (i := 1028) (by decide +kernel)) rfl
theorem w_1029 : Cond.code yX7_hoursGo cX7_hoursGo 4 (some .int) ∈ lw_g := lw_g_of (List.mem_of_getElem? (i := 1029) (by decide +kernel)) rfl
theorem w_1030 : Cond.methodLink RX7 140 yX7_hour ∈ lw_g := lw_g_of (List.mem_of_getElem? (i := 1030) (by decide +kernel)) rfl
theorem w_1032 : Cond.instanceMethod yX7_hour ∈ lw_g := lw_g_of (List.mem_of_getElem? (i := 1032) (by decide +kernel)) rfl
theorem w_1033 : Cond.code yX7_hour cX7_hour 4 (some .int) ∈ lw_g := lw_g_of (List.mem_of_getElem? (i := 1033) (by decide +kernel)) rfl
theorem w_1034 : Cond.methodLink RX7 133 yX7_goes ∈ lw_g := lw_g_of (List.mem_of_getElem? (i := 1034) (by decide +kernel)) rfl
theorem w_1036 : Cond.instanceMethod yX7_goes ∈ lw_g := lw_g_of (List.mem_of_getElem? (i := 1036) (by decide +kernel)) rfl
theorem w_1037 : Cond.code yX7_goes cX7_goes 6 none ∈ lw_g := lw_g_of (List.mem_of_getElem? (i := 1037) (by decide +kernel)) rfl
theorem w_1038 : Cond.methodLink RX7 119 yX7_carried ∈ lw_g := lw_g_of (List.mem_of_getElem? (i := 1038) (by decide +kernel)) rfl
theorem w_1039 : Cond.static yX7_carried ∈ lw_g := lw_g_of (List.mem_of_getElem? (i := 1039) (by decide +kernel)) rfl
theorem w_1040 : Cond.code yX7_carried cX7_carried 2 (some .int) ∈ lw_g := lw_g_of (List.mem_of_getElem? (i := 1040) (by decide +kernel)) rfl
theorem w_1041 : Cond.methodLink RX7 137 yX7_settles ∈ lw_g := lw_g_of (List.mem_of_getElem? (i := 1041) (by decide +kernel)) rfl
theorem w_1043 : Cond.instanceMethod yX7_settles ∈ lw_g := lw_g_of (List.mem_of_getElem? (i := 1043) (by decide +kernel)) rfl
theorem w_1044 : Cond.code yX7_settles cX7_settles 6 (some .int) ∈ lw_g := lw_g_of (List.mem_of_getElem? (i := 1044) (by decide +kernel)) rfl
theorem w_1045 : Cond.methodLink RL 72 yX7_ahead ∈ lw_g := lw_g_of (List.mem_of_getElem? (i := 1045) (by decide +kernel)) rfl
theorem w_1046 : Cond.instanceMethod yX7_ahead ∈ lw_g := lw_g_of (List.mem_of_getElem? (i := 1046) (by decide +kernel)) rfl
theorem w_1047 : Cond.selects RX7 yX7_ahead yX7_ahead ∈ lw_g := lw_g_of (List.mem_of_getElem? (i := 1047) (by decide +kernel)) rfl
theorem w_1048 : Cond.code yX7_ahead cX7_ahead 5 (some .int) ∈ lw_g := lw_g_of (List.mem_of_getElem? (i := 1048) (by decide +kernel)) rfl
theorem w_1049 : Cond.constantLong RX7 153 (72) ∈ lw_g := lw_g_of (List.mem_of_getElem? (i := 1049) (by decide +kernel)) rfl
theorem w_1050 : Cond.constantLong RX7 155 (14) ∈ lw_g := lw_g_of (List.mem_of_getElem? (i := 1050) (by decide +kernel)) rfl
theorem w_1051 : Cond.methodLink RX7 157 yX7_puts ∈ lw_g := lw_g_of (List.mem_of_getElem? (i := 1051) (by decide +kernel)) rfl
theorem w_1053 : Cond.instanceMethod yX7_puts ∈ lw_g := lw_g_of (List.mem_of_getElem? (i := 1053) (by decide +kernel)) rfl
theorem w_1054 : Cond.code yX7_puts cX7_puts 2 none ∈ lw_g := lw_g_of (List.mem_of_getElem? (i := 1054) (by decide +kernel)) rfl
theorem w_1055 : Cond.methodLink RX7 160 yX7_allOf ∈ lw_g := lw_g_of (List.mem_of_getElem? (i := 1055) (by decide +kernel)) rfl
theorem w_1057 : Cond.instanceMethod yX7_allOf ∈ lw_g := lw_g_of (List.mem_of_getElem? (i := 1057) (by decide +kernel)) rfl
theorem w_1058 : Cond.code yX7_allOf cX7_allOf 4 (some .int) ∈ lw_g := lw_g_of (List.mem_of_getElem? (i := 1058) (by decide +kernel)) rfl
theorem w_1059 : Cond.methodLink RX7 163 yX7_putsBack ∈ lw_g := lw_g_of (List.mem_of_getElem? (i := 1059) (by decide +kernel)) rfl
theorem w_1061 : Cond.instanceMethod yX7_putsBack ∈ lw_g := lw_g_of (List.mem_of_getElem? (i := 1061) (by decide +kernel)) rfl
theorem w_1062 : Cond.code yX7_putsBack cX7_putsBack 2 none ∈ lw_g := lw_g_of (List.mem_of_getElem? (i := 1062) (by decide +kernel)) rfl
theorem w_1063 : Cond.methodLink RL 76 yX7_clear ∈ lw_g := lw_g_of (List.mem_of_getElem? (i := 1063) (by decide +kernel)) rfl
theorem w_1064 : Cond.instanceMethod yX7_clear ∈ lw_g := lw_g_of (List.mem_of_getElem? (i := 1064) (by decide +kernel)) rfl
theorem w_1065 : Cond.selects RX7 yX7_clear yX7_clear ∈ lw_g := lw_g_of (List.mem_of_getElem? (i := 1065) (by decide +kernel)) rfl
theorem w_1066 : Cond.code yX7_clear cX7_clear 4 (some .int) ∈ lw_g := lw_g_of (List.mem_of_getElem? (i := 1066) (by decide +kernel)) rfl
theorem w_1067 : Cond.constant RX7 166 (-1000004) ∈ lw_g := lw_g_of (List.mem_of_getElem? (i := 1067) (by decide +kernel)) rfl
theorem w_1068 : Cond.methodLink RL 80 yX7_reaches ∈ lw_g := lw_g_of (List.mem_of_getElem? (i := 1068) (by decide +kernel)) rfl
theorem w_1069 : Cond.instanceMethod yX7_reaches ∈ lw_g := lw_g_of (List.mem_of_getElem? (i := 1069) (by decide +kernel)) rfl
theorem w_1070 : Cond.selects RX7 yX7_reaches yX7_reaches ∈ lw_g := lw_g_of (List.mem_of_getElem? (i := 1070) (by decide +kernel)) rfl
theorem w_1071 : Cond.code yX7_reaches cX7_reaches 5 (some .int) ∈ lw_g := lw_g_of (List.mem_of_getElem? (i := 1071) (by decide +kernel)) rfl
theorem w_1072 : Cond.methodLink RL 84 yX7_place ∈ lw_g := lw_g_of (List.mem_of_getElem? (i := 1072) (by decide +kernel)) rfl
theorem w_1073 : Cond.instanceMethod yX7_place ∈ lw_g := lw_g_of (List.mem_of_getElem? (i := 1073) (by decide +kernel)) rfl
theorem w_1074 : Cond.selects RX7 yX7_place yX7_place ∈ lw_g := lw_g_of (List.mem_of_getElem? (i := 1074) (by decide +kernel)) rfl
theorem w_1075 : Cond.code yX7_place cX7_place 3 (some .int) ∈ lw_g := lw_g_of (List.mem_of_getElem? (i := 1075) (by decide +kernel)) rfl
theorem w_1076 : Cond.methodLink RX7 172 yX7_isDay ∈ lw_g := lw_g_of (List.mem_of_getElem? (i := 1076) (by decide +kernel)) rfl
theorem w_1077 : Cond.static yX7_isDay ∈ lw_g := lw_g_of (List.mem_of_getElem? (i := 1077) (by decide +kernel)) rfl
theorem w_1078 : Cond.code yX7_isDay cX7_isDay 1 (some .boolean) ∈ lw_g := lw_g_of (List.mem_of_getElem? (i := 1078) (by decide +kernel)) rfl
theorem w_1079 : Cond.constantLong RX7 167 (24) ∈ lw_g := lw_g_of (List.mem_of_getElem? (i := 1079) (by decide +kernel)) rfl
theorem w_1080 : Cond.methodLink RX7 175 yX7_bestPart ∈ lw_g := lw_g_of (List.mem_of_getElem? (i := 1080) (by decide +kernel)) rfl
theorem w_1082 : Cond.instanceMethod yX7_bestPart ∈ lw_g := lw_g_of (List.mem_of_getElem? (i := 1082) (by decide +kernel)) rfl
theorem w_1083 : Cond.code yX7_bestPart cX7_bestPart 9 (some .int) ∈ lw_g := lw_g_of (List.mem_of_getElem? (i := 1083) (by decide +kernel)) rfl
theorem w_1084 : Cond.methodLink RX7 169 yX7_bookBehind ∈ lw_g := lw_g_of (List.mem_of_getElem? (i := 1084) (by decide +kernel)) rfl
theorem w_1086 : Cond.instanceMethod yX7_bookBehind ∈ lw_g := lw_g_of (List.mem_of_getElem? (i := 1086) (by decide +kernel)) rfl
theorem w_1087 : Cond.code yX7_bookBehind cX7_bookBehind 5 (some .int) ∈ lw_g := lw_g_of (List.mem_of_getElem? (i := 1087) (by decide +kernel)) rfl
theorem w_1088 : Cond.methodLink RL 88 yX7_highFor ∈ lw_g := lw_g_of (List.mem_of_getElem? (i := 1088) (by decide +kernel)) rfl
theorem w_1089 : Cond.instanceMethod yX7_highFor ∈ lw_g := lw_g_of (List.mem_of_getElem? (i := 1089) (by decide +kernel)) rfl
theorem w_1090 : Cond.selects RX7 yX7_highFor yX7_highFor ∈ lw_g := lw_g_of (List.mem_of_getElem? (i := 1090) (by decide +kernel)) rfl
theorem w_1091 : Cond.code yX7_highFor cX7_highFor 3 (some .int) ∈ lw_g := lw_g_of (List.mem_of_getElem? (i := 1091) (by decide +kernel)) rfl
theorem w_1092 : Cond.methodLink RL 92 yX7_gains ∈ lw_g := lw_g_of (List.mem_of_getElem? (i := 1092) (by decide +kernel)) rfl
theorem w_1093 : Cond.instanceMethod yX7_gains ∈ lw_g := lw_g_of (List.mem_of_getElem? (i := 1093) (by decide +kernel)) rfl
theorem w_1094 : Cond.selects RX7 yX7_gains yX7_gains ∈ lw_g := lw_g_of (List.mem_of_getElem? (i := 1094) (by decide +kernel)) rfl
theorem w_1095 : Cond.code yX7_gains cX7_gains 6 (some .int) ∈ lw_g := lw_g_of (List.mem_of_getElem? (i := 1095) (by decide +kernel)) rfl
theorem w_1096 : Cond.methodLink RL 96 yX7_when ∈ lw_g := lw_g_of (List.mem_of_getElem? (i := 1096) (by decide +kernel)) rfl
theorem w_1097 : Cond.instanceMethod yX7_when ∈ lw_g := lw_g_of (List.mem_of_getElem? (i := 1097) (by decide +kernel)) rfl
theorem w_1098 : Cond.selects RX7 yX7_when yX7_when ∈ lw_g := lw_g_of (List.mem_of_getElem? (i := 1098) (by decide +kernel)) rfl
theorem w_1099 : Cond.code yX7_when cX7_when 8 (some .int) ∈ lw_g := lw_g_of (List.mem_of_getElem? (i := 1099) (by decide +kernel)) rfl
theorem w_1100 : Cond.methodLink RX7 178 yX7_dirtIn ∈ lw_g := lw_g_of (List.mem_of_getElem? (i := 1100) (by decide +kernel)) rfl
theorem w_1102 : Cond.instanceMethod yX7_dirtIn ∈ lw_g := lw_g_of (List.mem_of_getElem? (i := 1102) (by decide +kernel)) rfl
theorem w_1103 : Cond.code yX7_dirtIn cX7_dirtIn 4 (some .int) ∈ lw_g := lw_g_of (List.mem_of_getElem? (i := 1103) (by decide +kernel)) rfl
theorem w_1104 : Cond.methodLink RL 100 yX7_build ∈ lw_g := lw_g_of (List.mem_of_getElem? (i := 1104) (by decide +kernel)) rfl
theorem w_1105 : Cond.instanceMethod yX7_build ∈ lw_g := lw_g_of (List.mem_of_getElem? (i := 1105) (by decide +kernel)) rfl
theorem w_1106 : Cond.selects RX7 yX7_build yX7_build ∈ lw_g := lw_g_of (List.mem_of_getElem? (i := 1106) (by decide +kernel)) rfl
theorem w_1107 : Cond.code yX7_build cX7_build 7 (some .int) ∈ lw_g := lw_g_of (List.mem_of_getElem? (i := 1107) (by decide +kernel)) rfl
theorem w_1108 : Cond.methodLink RL 104 yX7_washing ∈ lw_g := lw_g_of (List.mem_of_getElem? (i := 1108) (by decide +kernel)) rfl
theorem w_1109 : Cond.instanceMethod yX7_washing ∈ lw_g := lw_g_of (List.mem_of_getElem? (i := 1109) (by decide +kernel)) rfl
theorem w_1110 : Cond.selects RX7 yX7_washing yX7_washing ∈ lw_g := lw_g_of (List.mem_of_getElem? (i := 1110) (by decide +kernel)) rfl
theorem w_1111 : Cond.code yX7_washing cX7_washing 8 (some .int) ∈ lw_g := lw_g_of (List.mem_of_getElem? (i := 1111) (by decide +kernel)) rfl
theorem w_1112 : Cond.constantLong RX7 181 (12) ∈ lw_g := lw_g_of (List.mem_of_getElem? (i := 1112) (by decide +kernel)) rfl
theorem w_1113 : Cond.methodLink RX7 183 yX7_has ∈ lw_g := lw_g_of (List.mem_of_getElem? (i := 1113) (by decide +kernel)) rfl
theorem w_1114 : Cond.static yX7_has ∈ lw_g := lw_g_of (List.mem_of_getElem? (i := 1114) (by decide +kernel)) rfl
theorem w_1115 : Cond.code yX7_has cX7_has 2 (some .boolean) ∈ lw_g := lw_g_of (List.mem_of_getElem? (i := 1115) (by decide +kernel)) rfl
theorem w_1116 : Cond.methodLink RL 108 yX7_worst ∈ lw_g := lw_g_of (List.mem_of_getElem? (i := 1116) (by decide +kernel)) rfl
theorem w_1117 : Cond.instanceMethod yX7_worst ∈ lw_g := lw_g_of (List.mem_of_getElem? (i := 1117) (by decide +kernel)) rfl
theorem w_1118 : Cond.selects RX7 yX7_worst yX7_worst ∈ lw_g := lw_g_of (List.mem_of_getElem? (i := 1118) (by decide +kernel)) rfl
theorem w_1119 : Cond.code yX7_worst cX7_worst 7 (some .int) ∈ lw_g := lw_g_of (List.mem_of_getElem? (i := 1119) (by decide +kernel)) rfl
theorem w_1120 : Cond.methodLink RL 112 yX7_over ∈ lw_g := lw_g_of (List.mem_of_getElem? (i := 1120) (by decide +kernel)) rfl
theorem w_1121 : Cond.instanceMethod yX7_over ∈ lw_g := lw_g_of (List.mem_of_getElem? (i := 1121) (by decide +kernel)) rfl
theorem w_1122 : Cond.selects RX7 yX7_over yX7_over ∈ lw_g := lw_g_of (List.mem_of_getElem? (i := 1122) (by decide +kernel)) rfl
theorem w_1123 : Cond.code yX7_over cX7_over 4 (some .int) ∈ lw_g := lw_g_of (List.mem_of_getElem? (i := 1123) (by decide +kernel)) rfl
theorem w_1124 : Cond.methodLink RL 117 yX7_canHave ∈ lw_g := lw_g_of (List.mem_of_getElem? (i := 1124) (by decide +kernel)) rfl
theorem w_1125 : Cond.instanceMethod yX7_canHave ∈ lw_g := lw_g_of (List.mem_of_getElem? (i := 1125) (by decide +kernel)) rfl
theorem w_1126 : Cond.selects RX7 yX7_canHave yX7_canHave ∈ lw_g := lw_g_of (List.mem_of_getElem? (i := 1126) (by decide +kernel)) rfl
theorem w_1127 : Cond.code yX7_canHave cX7_canHave 10 (some .int) ∈ lw_g := lw_g_of (List.mem_of_getElem? (i := 1127) (by decide +kernel)) rfl
theorem w_1128 : Cond.methodLink RX7 186 yX7_isUnder ∈ lw_g := lw_g_of (List.mem_of_getElem? (i := 1128) (by decide +kernel)) rfl
theorem w_1130 : Cond.instanceMethod yX7_isUnder ∈ lw_g := lw_g_of (List.mem_of_getElem? (i := 1130) (by decide +kernel)) rfl
theorem w_1131 : Cond.code yX7_isUnder cX7_isUnder 4 (some .boolean) ∈ lw_g := lw_g_of (List.mem_of_getElem? (i := 1131) (by decide +kernel)) rfl
theorem w_1132 : Cond.methodLink RL 121 yX7_clocks ∈ lw_g := lw_g_of (List.mem_of_getElem? (i := 1132) (by decide +kernel)) rfl
theorem w_1133 : Cond.instanceMethod yX7_clocks ∈ lw_g := lw_g_of (List.mem_of_getElem? (i := 1133) (by decide +kernel)) rfl
theorem w_1134 : Cond.selects RX7 yX7_clocks yX7_clocks ∈ lw_g := lw_g_of (List.mem_of_getElem? (i := 1134) (by decide +kernel)) rfl
theorem w_1135 : Cond.code yX7_clocks cX7_clocks 9 (some .int) ∈ lw_g := lw_g_of (List.mem_of_getElem? (i := 1135) (by decide +kernel)) rfl
theorem w_1136 : Cond.methodLink RL 125 yX7_weather ∈ lw_g := lw_g_of (List.mem_of_getElem? (i := 1136) (by decide +kernel)) rfl
theorem w_1137 : Cond.instanceMethod yX7_weather ∈ lw_g := lw_g_of (List.mem_of_getElem? (i := 1137) (by decide +kernel)) rfl
theorem w_1138 : Cond.selects RX7 yX7_weather yX7_weather ∈ lw_g := lw_g_of (List.mem_of_getElem? (i := 1138) (by decide +kernel)) rfl
theorem w_1139 : Cond.code yX7_weather cX7_weather 4 (some .int) ∈ lw_g := lw_g_of (List.mem_of_getElem? (i := 1139) (by decide +kernel)) rfl
theorem w_1140 : Cond.methodLink RX7 189 yX7_next ∈ lw_g := lw_g_of (List.mem_of_getElem? (i := 1140) (by decide +kernel)) rfl
theorem w_1142 : Cond.instanceMethod yX7_next ∈ lw_g := lw_g_of (List.mem_of_getElem? (i := 1142) (by decide +kernel)) rfl
theorem w_1143 : Cond.code yX7_next cX7_next 1 (some .int) ∈ lw_g := lw_g_of (List.mem_of_getElem? (i := 1143) (by decide +kernel)) rfl
theorem w_1144 : Cond.constant RX7 57 (1103515245) ∈ lw_g := lw_g_of (List.mem_of_getElem? (i := 1144) (by decide +kernel)) rfl
theorem w_1145 : Cond.methodLink RL 129 yX7_seed ∈ lw_g := lw_g_of (List.mem_of_getElem? (i := 1145) (by decide +kernel)) rfl
theorem w_1146 : Cond.instanceMethod yX7_seed ∈ lw_g := lw_g_of (List.mem_of_getElem? (i := 1146) (by decide +kernel)) rfl
theorem w_1147 : Cond.selects RX7 yX7_seed yX7_seed ∈ lw_g := lw_g_of (List.mem_of_getElem? (i := 1147) (by decide +kernel)) rfl
theorem w_1148 : Cond.code yX7_seed cX7_seed 3 (some .int) ∈ lw_g := lw_g_of (List.mem_of_getElem? (i := 1148) (by decide +kernel)) rfl
theorem w_1149 : Cond.methodLink RL 133 yX7_feed ∈ lw_g := lw_g_of (List.mem_of_getElem? (i := 1149) (by decide +kernel)) rfl
theorem w_1150 : Cond.instanceMethod yX7_feed ∈ lw_g := lw_g_of (List.mem_of_getElem? (i := 1150) (by decide +kernel)) rfl
theorem w_1151 : Cond.selects RX7 yX7_feed yX7_feed ∈ lw_g := lw_g_of (List.mem_of_getElem? (i := 1151) (by decide +kernel)) rfl
theorem w_1152 : Cond.code yX7_feed cX7_feed 4 (some .int) ∈ lw_g := lw_g_of (List.mem_of_getElem? (i := 1152) (by decide +kernel)) rfl
theorem w_1153 : Cond.methodLink RL 137 yX7_wipe ∈ lw_g := lw_g_of (List.mem_of_getElem? (i := 1153) (by decide +kernel)) rfl
theorem w_1154 : Cond.instanceMethod yX7_wipe ∈ lw_g := lw_g_of (List.mem_of_getElem? (i := 1154) (by decide +kernel)) rfl
theorem w_1155 : Cond.selects RX7 yX7_wipe yX7_wipe ∈ lw_g := lw_g_of (List.mem_of_getElem? (i := 1155) (by decide +kernel)) rfl
theorem w_1156 : Cond.code yX7_wipe cX7_wipe 2 (some .int) ∈ lw_g := lw_g_of (List.mem_of_getElem? (i := 1156) (by decide +kernel)) rfl
theorem w_1157 : Cond.methodLink RL 141 yX7_text ∈ lw_g := lw_g_of (List.mem_of_getElem? (i := 1157) (by decide +kernel)) rfl
theorem w_1158 : Cond.instanceMethod yX7_text ∈ lw_g := lw_g_of (List.mem_of_getElem? (i := 1158) (by decide +kernel)) rfl
theorem w_1159 : Cond.selects RX7 yX7_text yX7_text ∈ lw_g := lw_g_of (List.mem_of_getElem? (i := 1159) (by decide +kernel)) rfl
theorem w_1160 : Cond.code yX7_text cX7_text 2 (some .int) ∈ lw_g := lw_g_of (List.mem_of_getElem? (i := 1160) (by decide +kernel)) rfl
theorem w_1161 : Cond.methodLink RX7 219 yX7_token ∈ lw_g := lw_g_of (List.mem_of_getElem? (i := 1161) (by decide +kernel)) rfl
theorem w_1163 : Cond.instanceMethod yX7_token ∈ lw_g := lw_g_of (List.mem_of_getElem? (i := 1163) (by decide +kernel)) rfl
theorem w_1164 : Cond.code yX7_token cX7_token 3 none ∈ lw_g := lw_g_of (List.mem_of_getElem? (i := 1164) (by decide +kernel)) rfl
theorem w_1165 : Cond.methodLink RX7 207 yX7_byteAt ∈ lw_g := lw_g_of (List.mem_of_getElem? (i := 1165) (by decide +kernel)) rfl
theorem w_1167 : Cond.instanceMethod yX7_byteAt ∈ lw_g := lw_g_of (List.mem_of_getElem? (i := 1167) (by decide +kernel)) rfl
theorem w_1168 : Cond.code yX7_byteAt cX7_byteAt 2 (some .int) ∈ lw_g := lw_g_of (List.mem_of_getElem? (i := 1168) (by decide +kernel)) rfl
theorem w_1169 : Cond.methodLink RX7 210 yX7_isLetter ∈ lw_g := lw_g_of (List.mem_of_getElem? (i := 1169) (by decide +kernel)) rfl
theorem w_1170 : Cond.static yX7_isLetter ∈ lw_g := lw_g_of (List.mem_of_getElem? (i := 1170) (by decide +kernel)) rfl
theorem w_1171 : Cond.code yX7_isLetter cX7_isLetter 1 (some .boolean) ∈ lw_g := lw_g_of (List.mem_of_getElem? (i := 1171) (by decide +kernel)) rfl
theorem w_1172 : Cond.constantLong RX7 195 (97) ∈ lw_g := lw_g_of (List.mem_of_getElem? (i := 1172) (by decide +kernel)) rfl
theorem w_1173 : Cond.constantLong RX7 197 (122) ∈ lw_g := lw_g_of (List.mem_of_getElem? (i := 1173) (by decide +kernel)) rfl
theorem w_1174 : Cond.methodLink RX7 213 yX7_isDigit ∈ lw_g := lw_g_of (List.mem_of_getElem? (i := 1174) (by decide +kernel)) rfl
theorem w_1175 : Cond.static yX7_isDigit ∈ lw_g := lw_g_of (List.mem_of_getElem? (i := 1175) (by decide +kernel)) rfl
theorem w_1176 : Cond.code yX7_isDigit cX7_isDigit 1 (some .boolean) ∈ lw_g := lw_g_of (List.mem_of_getElem? (i := 1176) (by decide +kernel)) rfl
theorem w_1177 : Cond.constantLong RX7 199 (57) ∈ lw_g := lw_g_of (List.mem_of_getElem? (i := 1177) (by decide +kernel)) rfl
theorem w_1178 : Cond.methodLink RX7 286 yX7_item ∈ lw_g := lw_g_of (List.mem_of_getElem? (i := 1178) (by decide +kernel)) rfl
theorem w_1180 : Cond.instanceMethod yX7_item ∈ lw_g := lw_g_of (List.mem_of_getElem? (i := 1180) (by decide +kernel)) rfl
theorem w_1181 : Cond.code yX7_item cX7_item 2 none ∈ lw_g := lw_g_of (List.mem_of_getElem? (i := 1181) (by decide +kernel)) rfl
theorem w_1182 : Cond.methodLink RX7 271 yX7_kindHere ∈ lw_g := lw_g_of (List.mem_of_getElem? (i := 1182) (by decide +kernel)) rfl
theorem w_1184 : Cond.instanceMethod yX7_kindHere ∈ lw_g := lw_g_of (List.mem_of_getElem? (i := 1184) (by decide +kernel)) rfl
theorem w_1185 : Cond.code yX7_kindHere cX7_kindHere 3 (some .int) ∈ lw_g := lw_g_of (List.mem_of_getElem? (i := 1185) (by decide +kernel)) rfl
theorem w_1186 : Cond.methodLink RX7 233 yX7_word ∈ lw_g := lw_g_of (List.mem_of_getElem? (i := 1186) (by decide +kernel)) rfl
theorem w_1188 : Cond.instanceMethod yX7_word ∈ lw_g := lw_g_of (List.mem_of_getElem? (i := 1188) (by decide +kernel)) rfl
theorem w_1189 : Cond.code yX7_word cX7_word 4 (some .long) ∈ lw_g := lw_g_of (List.mem_of_getElem? (i := 1189) (by decide +kernel)) rfl
theorem w_1190 : Cond.constantLong RX7 222 (36028797018963967) ∈ lw_g := lw_g_of (List.mem_of_getElem? (i := 1190) (by decide +kernel)) rfl
theorem w_1191 : Cond.constantLong RX7 224 (32) ∈ lw_g := lw_g_of (List.mem_of_getElem? (i := 1191) (by decide +kernel)) rfl
theorem w_1192 : Cond.constantLong RX7 237 (3499538617) ∈ lw_g := lw_g_of (List.mem_of_getElem? (i := 1192) (by decide +kernel)) rfl
theorem w_1193 : Cond.constantLong RX7 239 (2141362) ∈ lw_g := lw_g_of (List.mem_of_getElem? (i := 1193) (by decide +kernel)) rfl
theorem w_1194 : Cond.constantLong RX7 241 (672610482) ∈ lw_g := lw_g_of (List.mem_of_getElem? (i := 1194) (by decide +kernel)) rfl
theorem w_1195 : Cond.constantLong RX7 243 (6801637) ∈ lw_g := lw_g_of (List.mem_of_getElem? (i := 1195) (by decide +kernel)) rfl
theorem w_1196 : Cond.constantLong RX7 245 (514222) ∈ lw_g := lw_g_of (List.mem_of_getElem? (i := 1196) (by decide +kernel)) rfl
theorem w_1197 : Cond.constantLong RX7 247 (20530) ∈ lw_g := lw_g_of (List.mem_of_getElem? (i := 1197) (by decide +kernel)) rfl
theorem w_1198 : Cond.constantLong RX7 249 (370062) ∈ lw_g := lw_g_of (List.mem_of_getElem? (i := 1198) (by decide +kernel)) rfl
theorem w_1199 : Cond.methodLink RX7 274 yX7_chimneyItem ∈ lw_g := lw_g_of (List.mem_of_getElem? (i := 1199) (by decide +kernel)) rfl
theorem w_1201 : Cond.instanceMethod yX7_chimneyItem ∈ lw_g := lw_g_of (List.mem_of_getElem? (i := 1201) (by decide +kernel)) rfl
theorem w_1202 : Cond.code yX7_chimneyItem cX7_chimneyItem 10 none ∈ lw_g := lw_g_of (List.mem_of_getElem? (i := 1202) (by decide +kernel)) rfl
theorem w_1203 : Cond.methodLink RX7 229 yX7_needs ∈ lw_g := lw_g_of (List.mem_of_getElem? (i := 1203) (by decide +kernel)) rfl
theorem w_1205 : Cond.instanceMethod yX7_needs ∈ lw_g := lw_g_of (List.mem_of_getElem? (i := 1205) (by decide +kernel)) rfl
theorem w_1206 : Cond.code yX7_needs cX7_needs 2 none ∈ lw_g := lw_g_of (List.mem_of_getElem? (i := 1206) (by decide +kernel)) rfl
theorem w_1207 : Cond.constantLong RX7 253 (486) ∈ lw_g := lw_g_of (List.mem_of_getElem? (i := 1207) (by decide +kernel)) rfl
theorem w_1208 : Cond.methodLink RX7 251 yX7_number ∈ lw_g := lw_g_of (List.mem_of_getElem? (i := 1208) (by decide +kernel)) rfl
theorem w_1210 : Cond.instanceMethod yX7_number ∈ lw_g := lw_g_of (List.mem_of_getElem? (i := 1210) (by decide +kernel)) rfl
theorem w_1211 : Cond.code yX7_number cX7_number 6 none ∈ lw_g := lw_g_of (List.mem_of_getElem? (i := 1211) (by decide +kernel)) rfl
theorem w_1212 : Cond.constantLong RX7 255 (52) ∈ lw_g := lw_g_of (List.mem_of_getElem? (i := 1212) (by decide +kernel)) rfl
theorem w_1213 : Cond.constantLong RX7 257 (271592) ∈ lw_g := lw_g_of (List.mem_of_getElem? (i := 1213) (by decide +kernel)) rfl
theorem w_1214 : Cond.methodLink RX7 259 yX7_perhaps ∈ lw_g := lw_g_of (List.mem_of_getElem? (i := 1214) (by decide +kernel)) rfl
theorem w_1216 : Cond.instanceMethod yX7_perhaps ∈ lw_g := lw_g_of (List.mem_of_getElem? (i := 1216) (by decide +kernel)) rfl
theorem w_1217 : Cond.code yX7_perhaps cX7_perhaps 4 (some .int) ∈ lw_g := lw_g_of (List.mem_of_getElem? (i := 1217) (by decide +kernel)) rfl
theorem w_1218 : Cond.constantLong RX7 263 (206405) ∈ lw_g := lw_g_of (List.mem_of_getElem? (i := 1218) (by decide +kernel)) rfl
theorem w_1219 : Cond.constantLong RX7 265 (215533) ∈ lw_g := lw_g_of (List.mem_of_getElem? (i := 1219) (by decide +kernel)) rfl
theorem w_1220 : Cond.constantLong RX7 267 (409031) ∈ lw_g := lw_g_of (List.mem_of_getElem? (i := 1220) (by decide +kernel)) rfl
theorem w_1221 : Cond.constantLong RX7 278 (605670) ∈ lw_g := lw_g_of (List.mem_of_getElem? (i := 1221) (by decide +kernel)) rfl
theorem w_1222 : Cond.methodLink RX7 280 yX7_roofItem ∈ lw_g := lw_g_of (List.mem_of_getElem? (i := 1222) (by decide +kernel)) rfl
theorem w_1224 : Cond.instanceMethod yX7_roofItem ∈ lw_g := lw_g_of (List.mem_of_getElem? (i := 1224) (by decide +kernel)) rfl
theorem w_1225 : Cond.code yX7_roofItem cX7_roofItem 2 none ∈ lw_g := lw_g_of (List.mem_of_getElem? (i := 1225) (by decide +kernel)) rfl
theorem w_1226 : Cond.methodLink RX7 283 yX7_windItem ∈ lw_g := lw_g_of (List.mem_of_getElem? (i := 1226) (by decide +kernel)) rfl
theorem w_1228 : Cond.instanceMethod yX7_windItem ∈ lw_g := lw_g_of (List.mem_of_getElem? (i := 1228) (by decide +kernel)) rfl
theorem w_1229 : Cond.code yX7_windItem cX7_windItem 3 none ∈ lw_g := lw_g_of (List.mem_of_getElem? (i := 1229) (by decide +kernel)) rfl
theorem w_1230 : Cond.constantLong RX7 269 (763332) ∈ lw_g := lw_g_of (List.mem_of_getElem? (i := 1230) (by decide +kernel)) rfl
theorem w_1231 : Cond.methodLink RL 145 yX7_hold ∈ lw_g := lw_g_of (List.mem_of_getElem? (i := 1231) (by decide +kernel)) rfl
theorem w_1232 : Cond.instanceMethod yX7_hold ∈ lw_g := lw_g_of (List.mem_of_getElem? (i := 1232) (by decide +kernel)) rfl
theorem w_1233 : Cond.selects RX7 yX7_hold yX7_hold ∈ lw_g := lw_g_of (List.mem_of_getElem? (i := 1233) (by decide +kernel)) rfl
theorem w_1234 : Cond.code yX7_hold cX7_hold 3 (some .int) ∈ lw_g := lw_g_of (List.mem_of_getElem? (i := 1234) (by decide +kernel)) rfl
theorem w_1235 : Cond.methodLink RL 149 yX7_as ∈ lw_g := lw_g_of (List.mem_of_getElem? (i := 1235) (by decide +kernel)) rfl
theorem w_1236 : Cond.instanceMethod yX7_as ∈ lw_g := lw_g_of (List.mem_of_getElem? (i := 1236) (by decide +kernel)) rfl
theorem w_1237 : Cond.selects RX7 yX7_as yX7_as ∈ lw_g := lw_g_of (List.mem_of_getElem? (i := 1237) (by decide +kernel)) rfl
theorem w_1238 : Cond.code yX7_as cX7_as 4 (some .int) ∈ lw_g := lw_g_of (List.mem_of_getElem? (i := 1238) (by decide +kernel)) rfl
theorem w_1239 : Cond.constant RX7 289 (-1000006) ∈ lw_g := lw_g_of (List.mem_of_getElem? (i := 1239) (by decide +kernel)) rfl
theorem w_1240 : Cond.constant RX7 290 (-1000003) ∈ lw_g := lw_g_of (List.mem_of_getElem? (i := 1240) (by decide +kernel)) rfl
theorem w_1241 : Cond.methodLink RL 153 yX7_sheet ∈ lw_g := lw_g_of (List.mem_of_getElem? (i := 1241) (by decide +kernel)) rfl
theorem w_1242 : Cond.instanceMethod yX7_sheet ∈ lw_g := lw_g_of (List.mem_of_getElem? (i := 1242) (by decide +kernel)) rfl
theorem w_1243 : Cond.selects RX7 yX7_sheet yX7_sheet ∈ lw_g := lw_g_of (List.mem_of_getElem? (i := 1243) (by decide +kernel)) rfl
theorem w_1244 : Cond.code yX7_sheet cX7_sheet 5 (some .int) ∈ lw_g := lw_g_of (List.mem_of_getElem? (i := 1244) (by decide +kernel)) rfl
theorem w_1245 : Cond.methodLink RX7 293 yX7_isOne ∈ lw_g := lw_g_of (List.mem_of_getElem? (i := 1245) (by decide +kernel)) rfl
theorem w_1246 : Cond.static yX7_isOne ∈ lw_g := lw_g_of (List.mem_of_getElem? (i := 1246) (by decide +kernel)) rfl
theorem w_1247 : Cond.code yX7_isOne cX7_isOne 1 (some .boolean) ∈ lw_g := lw_g_of (List.mem_of_getElem? (i := 1247) (by decide +kernel)) rfl
theorem w_1248 : Cond.constantLong RX7 291 (3) ∈ lw_g := lw_g_of (List.mem_of_getElem? (i := 1248) (by decide +kernel)) rfl
theorem w_1249 : Cond.constant RX7 296 (-1000007) ∈ lw_g := lw_g_of (List.mem_of_getElem? (i := 1249) (by decide +kernel)) rfl
theorem w_1250 : Cond.methodLink RL 157 yX7_write ∈ lw_g := lw_g_of (List.mem_of_getElem? (i := 1250) (by decide +kernel)) rfl
theorem w_1251 : Cond.instanceMethod yX7_write ∈ lw_g := lw_g_of (List.mem_of_getElem? (i := 1251) (by decide +kernel)) rfl
theorem w_1252 : Cond.selects RX7 yX7_write yX7_write ∈ lw_g := lw_g_of (List.mem_of_getElem? (i := 1252) (by decide +kernel)) rfl
theorem w_1253 : Cond.code yX7_write cX7_write 5 (some .int) ∈ lw_g := lw_g_of (List.mem_of_getElem? (i := 1253) (by decide +kernel)) rfl
theorem w_1254 : Cond.methodLink RX7 297 yX7_wrong ∈ lw_g := lw_g_of (List.mem_of_getElem? (i := 1254) (by decide +kernel)) rfl
theorem w_1256 : Cond.instanceMethod yX7_wrong ∈ lw_g := lw_g_of (List.mem_of_getElem? (i := 1256) (by decide +kernel)) rfl
theorem w_1257 : Cond.code yX7_wrong cX7_wrong 2 (some .int) ∈ lw_g := lw_g_of (List.mem_of_getElem? (i := 1257) (by decide +kernel)) rfl
theorem w_1258 : Cond.methodLink RX7 300 yX7_narrowed ∈ lw_g := lw_g_of (List.mem_of_getElem? (i := 1258) (by decide +kernel)) rfl
theorem w_1259 : Cond.static yX7_narrowed ∈ lw_g := lw_g_of (List.mem_of_getElem? (i := 1259) (by decide +kernel)) rfl
theorem w_1260 : Cond.code yX7_narrowed cX7_narrowed 2 (some .int) ∈ lw_g := lw_g_of (List.mem_of_getElem? (i := 1260) (by decide +kernel)) rfl
theorem w_1261 : Cond.methodLink RL 162 yX7_copy ∈ lw_g := lw_g_of (List.mem_of_getElem? (i := 1261) (by decide +kernel)) rfl
theorem w_1262 : Cond.instanceMethod yX7_copy ∈ lw_g := lw_g_of (List.mem_of_getElem? (i := 1262) (by decide +kernel)) rfl
theorem w_1263 : Cond.selects RX7 yX7_copy yX7_copy ∈ lw_g := lw_g_of (List.mem_of_getElem? (i := 1263) (by decide +kernel)) rfl
theorem w_1264 : Cond.code yX7_copy cX7_copy 7 (some .int) ∈ lw_g := lw_g_of (List.mem_of_getElem? (i := 1264) (by decide +kernel)) rfl
theorem w_1265 : Cond.methodLink RL 166 yX7_load ∈ lw_g := lw_g_of (List.mem_of_getElem? (i := 1265) (by decide +kernel)) rfl
theorem w_1266 : Cond.instanceMethod yX7_load ∈ lw_g := lw_g_of (List.mem_of_getElem? (i := 1266) (by decide +kernel)) rfl
theorem w_1267 : Cond.selects RX7 yX7_load yX7_load ∈ lw_g := lw_g_of (List.mem_of_getElem? (i := 1267) (by decide +kernel)) rfl
theorem w_1268 : Cond.code yX7_load cX7_load 4 (some .int) ∈ lw_g := lw_g_of (List.mem_of_getElem? (i := 1268) (by decide +kernel)) rfl
theorem w_1269 : Cond.methodLink RL 170 yX7_judge ∈ lw_g := lw_g_of (List.mem_of_getElem? (i := 1269) (by decide +kernel)) rfl
theorem w_1270 : Cond.instanceMethod yX7_judge ∈ lw_g := lw_g_of (List.mem_of_getElem? (i := 1270) (by decide +kernel)) rfl
theorem w_1271 : Cond.selects RX7 yX7_judge yX7_judge ∈ lw_g := lw_g_of (List.mem_of_getElem? (i := 1271) (by decide +kernel)) rfl
theorem w_1272 : Cond.code yX7_judge cX7_judge 4 (some .int) ∈ lw_g := lw_g_of (List.mem_of_getElem? (i := 1272) (by decide +kernel)) rfl
theorem w_1273 : Cond.methodLink RL 174 yX7_image ∈ lw_g := lw_g_of (List.mem_of_getElem? (i := 1273) (by decide +kernel)) rfl
theorem w_1274 : Cond.instanceMethod yX7_image ∈ lw_g := lw_g_of (List.mem_of_getElem? (i := 1274) (by decide +kernel)) rfl
theorem w_1275 : Cond.selects RX7 yX7_image yX7_image ∈ lw_g := lw_g_of (List.mem_of_getElem? (i := 1275) (by decide +kernel)) rfl
theorem w_1276 : Cond.code yX7_image cX7_image 2 (some .int) ∈ lw_g := lw_g_of (List.mem_of_getElem? (i := 1276) (by decide +kernel)) rfl
theorem w_1277 : Cond.methodLink RL 178 yX7_undo ∈ lw_g := lw_g_of (List.mem_of_getElem? (i := 1277) (by decide +kernel)) rfl
theorem w_1278 : Cond.instanceMethod yX7_undo ∈ lw_g := lw_g_of (List.mem_of_getElem? (i := 1278) (by decide +kernel)) rfl
theorem w_1279 : Cond.selects RX7 yX7_undo yX7_undo ∈ lw_g := lw_g_of (List.mem_of_getElem? (i := 1279) (by decide +kernel)) rfl
theorem w_1280 : Cond.code yX7_undo cX7_undo 2 (some .int) ∈ lw_g := lw_g_of (List.mem_of_getElem? (i := 1280) (by decide +kernel)) rfl
theorem w_1281 : Cond.methodLink RL 182 yX7_tear ∈ lw_g := lw_g_of (List.mem_of_getElem? (i := 1281) (by decide +kernel)) rfl
theorem w_1282 : Cond.instanceMethod yX7_tear ∈ lw_g := lw_g_of (List.mem_of_getElem? (i := 1282) (by decide +kernel)) rfl
theorem w_1283 : Cond.selects RX7 yX7_tear yX7_tear ∈ lw_g := lw_g_of (List.mem_of_getElem? (i := 1283) (by decide +kernel)) rfl
theorem w_1284 : Cond.code yX7_tear cX7_tear 2 (some .int) ∈ lw_g := lw_g_of (List.mem_of_getElem? (i := 1284) (by decide +kernel)) rfl
theorem w_1285 : Cond.methodLink RL 186 yX7_count ∈ lw_g := lw_g_of (List.mem_of_getElem? (i := 1285) (by decide +kernel)) rfl
theorem w_1286 : Cond.instanceMethod yX7_count ∈ lw_g := lw_g_of (List.mem_of_getElem? (i := 1286) (by decide +kernel)) rfl
theorem w_1287 : Cond.selects RX7 yX7_count yX7_count ∈ lw_g := lw_g_of (List.mem_of_getElem? (i := 1287) (by decide +kernel)) rfl
theorem w_1288 : Cond.code yX7_count cX7_count 4 (some .int) ∈ lw_g := lw_g_of (List.mem_of_getElem? (i := 1288) (by decide +kernel)) rfl
theorem w_1289 : Cond.methodLink RL 190 yX7_status ∈ lw_g := lw_g_of (List.mem_of_getElem? (i := 1289) (by decide +kernel)) rfl
theorem w_1290 : Cond.instanceMethod yX7_status ∈ lw_g := lw_g_of (List.mem_of_getElem? (i := 1290) (by decide +kernel)) rfl
theorem w_1291 : Cond.selects RX7 yX7_status yX7_status ∈ lw_g := lw_g_of (List.mem_of_getElem? (i := 1291) (by decide +kernel)) rfl
theorem w_1292 : Cond.code yX7_status cX7_status 4 (some .int) ∈ lw_g := lw_g_of (List.mem_of_getElem? (i := 1292) (by decide +kernel)) rfl
theorem w_1293 : Cond.fieldLink RJ0 9 RJ0 "value" "[B" ∈ lw_g := lw_g_of (List.mem_of_getElem? (i := 1293) (by decide +kernel)) rfl
theorem w_1294 : Cond.fieldLink RJ0 15 RJ0 "coder" "B" ∈ lw_g := lw_g_of (List.mem_of_getElem? (i := 1294) (by decide +kernel)) rfl
theorem ws_ini_J0 : Cond.initialized RJ0 ∈ lw_g := w_61
theorem ws_ini_J1 : Cond.initialized RJ1 ∈ lw_g := w_62
theorem ws_ini_J3 : Cond.initialized RJ3 ∈ lw_g := w_63
theorem ws_code_J3_chk : Cond.code yJ3_checkIndex_8e157 cJ3_checkIndex_8e157 3 (some .int) ∈ lw_g := w_662
theorem ws_code_J0_chk : Cond.code yJ0_checkIndex_df160 cJ0_checkIndex_df160 2 none ∈ lw_g := w_657
theorem ws_code_J1_chr : Cond.code yJ1_charAt_3b067 cJ1_charAt_3b067 2 (some .char) ∈ lw_g := w_654
theorem ws_code_J0_cod : Cond.code yJ0_coder_7d493 cJ0_coder_7d493 1 (some .byte) ∈ lw_g := w_641
theorem ws_code_J0_lat : Cond.code yJ0_isLatin1_aae02 cJ0_isLatin1_aae02 1 (some .boolean) ∈ lw_g := w_651
theorem ws_code_J0_len : Cond.code yJ0_length_8abf5 cJ0_length_8abf5 1 (some .int) ∈ lw_g := w_637
theorem ws_code_J0_chr : Cond.code yJ0_charAt_5068e cJ0_charAt_5068e 2 (some .char) ∈ lw_g := w_647
theorem ws_st_J0_chk : Cond.static yJ0_checkIndex_df160 ∈ lw_g := w_656
theorem ws_st_J3_chk : Cond.static yJ3_checkIndex_8e157 ∈ lw_g := w_661
theorem ws_st_J1_chr : Cond.static yJ1_charAt_3b067 ∈ lw_g := w_653
theorem ws_in_J0_cod : Cond.instanceMethod yJ0_coder_7d493 ∈ lw_g := w_639
theorem ws_se_J0_cod : Cond.selects RJ0 yJ0_coder_7d493 yJ0_coder_7d493 ∈ lw_g := w_640
theorem ws_in_J0_lat : Cond.instanceMethod yJ0_isLatin1_aae02 ∈ lw_g := w_649
theorem ws_se_J0_lat : Cond.selects RJ0 yJ0_isLatin1_aae02 yJ0_isLatin1_aae02 ∈ lw_g := w_650
theorem ws_in_J0_len : Cond.instanceMethod yJ0_length_8abf5 ∈ lw_g := w_635
theorem ws_se_J0_len : Cond.selects RJ0 yJ0_length_8abf5 yJ0_length_8abf5 ∈ lw_g := w_636
theorem ws_in_J0_chr : Cond.instanceMethod yJ0_charAt_5068e ∈ lw_g := w_645
theorem ws_se_J0_chr : Cond.selects RJ0 yJ0_charAt_5068e yJ0_charAt_5068e ∈ lw_g := w_646
theorem ws_ln_J0_1059 : Cond.methodLink RJ0 1059 yJ3_checkIndex_8e157 ∈ lw_g := w_660
theorem ws_ln_J1_9 : Cond.methodLink RJ1 9 yJ0_checkIndex_df160 ∈ lw_g := w_655
theorem ws_ln_J0_335 : Cond.methodLink RJ0 335 yJ0_coder_7d493 ∈ lw_g := w_638
theorem ws_ln_J0_492 : Cond.methodLink RJ0 492 yJ0_isLatin1_aae02 ∈ lw_g := w_648
theorem ws_ln_J0_495 : Cond.methodLink RJ0 495 yJ1_charAt_3b067 ∈ lw_g := w_652
theorem ws_ln_J0_1053 : Cond.fieldLink RJ0 1053 RJ3 "SIOOBE_FORMATTER" "Ljava/util/function/BiFunction;" ∈ lw_g := w_658
theorem ws_ln_J0_38 : Cond.fieldLink RJ0 38 RJ0 "COMPACT_STRINGS" "Z" ∈ lw_g := w_642
theorem ws_ln_J0_15 : Cond.fieldLink RJ0 15 RJ0 "coder" "B" ∈ lw_g := w_1294
theorem ws_ln_J0_9 : Cond.fieldLink RJ0 9 RJ0 "value" "[B" ∈ lw_g := w_1293
