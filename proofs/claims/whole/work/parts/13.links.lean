/-! ===== printed by program: links ===== -/
theorem lL_113 : Cond.methodLink RL 113 yX8_init ∈ wT := wAt_in (i := 77) (by decide +kernel)
theorem lX8_9 : Cond.methodLink RX8 9 yX3_init ∈ wT := wAt_in (i := 85) (by decide +kernel)
theorem lX3_24 : Cond.methodLink RX3 24 yX1_init ∈ wT := wAt_in (i := 132) (by decide +kernel)
theorem lX3_31 : Cond.methodLink RX3 31 yX5_init ∈ wT := wAt_in (i := 190) (by decide +kernel)
theorem lX8_21 : Cond.methodLink RX8 21 yX4_init ∈ wT := wAt_in (i := 234) (by decide +kernel)
theorem lX4_17 : Cond.methodLink RX4 17 yX3_init ∈ wT := wAt_in (i := 240) (by decide +kernel)
theorem lX8_28 : Cond.methodLink RX8 28 yX0_init ∈ wT := wAt_in (i := 254) (by decide +kernel)
theorem lX8_35 : Cond.methodLink RX8 35 yX2_init ∈ wT := wAt_in (i := 276) (by decide +kernel)
theorem lL_178 : Cond.methodLink RL 178 yX8_allocate ∈ wT := wAt_in (i := 342) (by decide +kernel)
theorem lX8_65 : Cond.methodLink RX8 65 yX4_push ∈ wT := wAt_in (i := 346) (by decide +kernel)
theorem lX4_22 : Cond.methodLink RX4 22 yX3_copyFrom ∈ wT := wAt_in (i := 350) (by decide +kernel)
theorem lX3_43 : Cond.methodLink RX3 43 yX7_copyFrom ∈ wT := wAt_in (i := 354) (by decide +kernel)
theorem lX3_47 : Cond.methodLink RX3 47 yX1_copyFrom ∈ wT := wAt_in (i := 358) (by decide +kernel)
theorem lX3_56 : Cond.methodLink RX3 56 yX5_copyFrom ∈ wT := wAt_in (i := 366) (by decide +kernel)
theorem lX5_19 : Cond.methodLink RX5 19 yX5_keptCount ∈ wT := wAt_in (i := 370) (by decide +kernel)
theorem lX8_256 : Cond.methodLink RX8 256 yX0_runRounds ∈ wT := wAt_in (i := 379) (by decide +kernel)
theorem lX0_25 : Cond.methodLink RX0 25 yX0_beginRound ∈ wT := wAt_in (i := 384) (by decide +kernel)
theorem lX0_63 : Cond.methodLink RX0 63 yX3_rankKey ∈ wT := wAt_in (i := 388) (by decide +kernel)
theorem lX3_83 : Cond.methodLink RX3 83 yX3_classOf ∈ wT := wAt_in (i := 392) (by decide +kernel)
theorem lX3_69 : Cond.methodLink RX3 69 yX3_isSibling ∈ wT := wAt_in (i := 396) (by decide +kernel)
theorem lX3_73 : Cond.methodLink RX3 73 yX7_distanceTo ∈ wT := wAt_in (i := 403) (by decide +kernel)
theorem lX0_29 : Cond.methodLink RX0 29 yX0_runRound ∈ wT := wAt_in (i := 410) (by decide +kernel)
theorem lX0_37 : Cond.methodLink RX0 37 yX0_nextAsker ∈ wT := wAt_in (i := 414) (by decide +kernel)
theorem lX0_52 : Cond.methodLink RX0 52 yX0_askAt ∈ wT := wAt_in (i := 418) (by decide +kernel)
theorem lX0_70 : Cond.methodLink RX0 70 yX0_keyAt ∈ wT := wAt_in (i := 422) (by decide +kernel)
theorem lX0_33 : Cond.methodLink RX0 33 yX0_markSiblings ∈ wT := wAt_in (i := 426) (by decide +kernel)
theorem lX0_86 : Cond.methodLink RX0 86 yX0_familyHolds ∈ wT := wAt_in (i := 431) (by decide +kernel)
theorem lX8_260 : Cond.methodLink RX8 260 yX3_take ∈ wT := wAt_in (i := 435) (by decide +kernel)
theorem lX3_149 : Cond.methodLink RX3 149 yX3_moveChild ∈ wT := wAt_in (i := 439) (by decide +kernel)
theorem lX3_134 : Cond.methodLink RX3 134 yX5_note ∈ wT := wAt_in (i := 443) (by decide +kernel)
theorem lL_186 : Cond.methodLink RL 186 yX8_unstable ∈ wT := wAt_in (i := 447) (by decide +kernel)
theorem lX8_119 : Cond.methodLink RX8 119 yX3_freeSeats ∈ wT := wAt_in (i := 451) (by decide +kernel)
theorem lX3_124 : Cond.methodLink RX3 124 yX3_countHolders ∈ wT := wAt_in (i := 455) (by decide +kernel)
theorem lX8_243 : Cond.methodLink RX8 243 yX1_prefers ∈ wT := wAt_in (i := 462) (by decide +kernel)
theorem lX1_49 : Cond.methodLink RX1 49 yX1_placeOf ∈ wT := wAt_in (i := 466) (by decide +kernel)
theorem lX8_250 : Cond.methodLink RX8 250 yX3_holdsWorse ∈ wT := wAt_in (i := 470) (by decide +kernel)
theorem lX3_106 : Cond.methodLink RX3 106 yX3_rankKey ∈ wT := wAt_in (i := 474) (by decide +kernel)
theorem lL_219 : Cond.methodLink RL 219 yX8_save ∈ wT := wAt_in (i := 475) (by decide +kernel)
theorem lX8_336 : Cond.methodLink RX8 336 yX3_copyFrom ∈ wT := wAt_in (i := 479) (by decide +kernel)
theorem lX8_303 : Cond.methodLink RX8 303 yX3_countSeated ∈ wT := wAt_in (i := 480) (by decide +kernel)
theorem lL_117 : Cond.methodLink RL 117 yL_addSchool ∈ wT := wAt_in (i := 484) (by decide +kernel)
theorem lL_7 : Cond.methodLink RL 7 yX8_addSchool ∈ wT := wAt_in (i := 489) (by decide +kernel)
theorem lX8_51 : Cond.methodLink RX8 51 yX8_checkRange ∈ wT := wAt_in (i := 493) (by decide +kernel)
theorem lX8_73 : Cond.methodLink RX8 73 yX7_begin ∈ wT := wAt_in (i := 584) (by decide +kernel)
theorem lL_126 : Cond.methodLink RL 126 yL_setSeats ∈ wT := wAt_in (i := 588) (by decide +kernel)
theorem lL_17 : Cond.methodLink RL 17 yX8_setSeats ∈ wT := wAt_in (i := 615) (by decide +kernel)
theorem lX8_79 : Cond.methodLink RX8 79 yX8_checkSchool ∈ wT := wAt_in (i := 619) (by decide +kernel)
theorem lX8_86 : Cond.methodLink RX8 86 yX3_fillSeats ∈ wT := wAt_in (i := 636) (by decide +kernel)
theorem lX3_139 : Cond.methodLink RX3 139 yX3_fillOneSeat ∈ wT := wAt_in (i := 641) (by decide +kernel)
theorem lX3_143 : Cond.methodLink RX3 143 yX3_freeSeats ∈ wT := wAt_in (i := 645) (by decide +kernel)
theorem lX3_146 : Cond.methodLink RX3 146 yX3_firstWaiting ∈ wT := wAt_in (i := 646) (by decide +kernel)
theorem lX3_99 : Cond.methodLink RX3 99 yX1_prefers ∈ wT := wAt_in (i := 650) (by decide +kernel)
theorem lL_130 : Cond.methodLink RL 130 yL_setRadius ∈ wT := wAt_in (i := 651) (by decide +kernel)
theorem lL_23 : Cond.methodLink RL 23 yX8_setRadius ∈ wT := wAt_in (i := 654) (by decide +kernel)
theorem lL_133 : Cond.methodLink RL 133 yL_setRule ∈ wT := wAt_in (i := 658) (by decide +kernel)
theorem lL_26 : Cond.methodLink RL 26 yX8_setRule ∈ wT := wAt_in (i := 661) (by decide +kernel)
theorem lL_136 : Cond.methodLink RL 136 yL_setLimit ∈ wT := wAt_in (i := 665) (by decide +kernel)
theorem lL_29 : Cond.methodLink RL 29 yX8_setLimit ∈ wT := wAt_in (i := 668) (by decide +kernel)
theorem lL_139 : Cond.methodLink RL 139 yL_setPupils ∈ wT := wAt_in (i := 672) (by decide +kernel)
theorem lL_32 : Cond.methodLink RL 32 yX8_setPupils ∈ wT := wAt_in (i := 675) (by decide +kernel)
theorem lX8_108 : Cond.methodLink RX8 108 yX8_contains ∈ wT := wAt_in (i := 680) (by decide +kernel)
theorem lL_143 : Cond.methodLink RL 143 yL_school ∈ wT := wAt_in (i := 681) (by decide +kernel)
theorem lL_36 : Cond.methodLink RL 36 yX8_school ∈ wT := wAt_in (i := 684) (by decide +kernel)
theorem lX8_115 : Cond.methodLink RX8 115 yX3_countHolders ∈ wT := wAt_in (i := 688) (by decide +kernel)
theorem lX8_122 : Cond.methodLink RX8 122 yX3_countWaiters ∈ wT := wAt_in (i := 689) (by decide +kernel)
theorem lX8_125 : Cond.methodLink RX8 125 yX3_countInCatchment ∈ wT := wAt_in (i := 693) (by decide +kernel)
theorem lL_146 : Cond.methodLink RL 146 yL_held ∈ wT := wAt_in (i := 698) (by decide +kernel)
theorem lL_39 : Cond.methodLink RL 39 yX8_held ∈ wT := wAt_in (i := 702) (by decide +kernel)
theorem lX8_140 : Cond.methodLink RX8 140 yX3_rollChild ∈ wT := wAt_in (i := 708) (by decide +kernel)
theorem lX3_110 : Cond.methodLink RX3 110 yX3_isOn ∈ wT := wAt_in (i := 712) (by decide +kernel)
theorem lX3_114 : Cond.methodLink RX3 114 yX3_rollBefore ∈ wT := wAt_in (i := 717) (by decide +kernel)
theorem lX8_144 : Cond.methodLink RX8 144 yX8_found ∈ wT := wAt_in (i := 721) (by decide +kernel)
theorem lL_149 : Cond.methodLink RL 149 yL_waiting ∈ wT := wAt_in (i := 740) (by decide +kernel)
theorem lL_44 : Cond.methodLink RL 44 yX8_waiting ∈ wT := wAt_in (i := 743) (by decide +kernel)
theorem lL_152 : Cond.methodLink RL 152 yL_addChild ∈ wT := wAt_in (i := 749) (by decide +kernel)
theorem lL_47 : Cond.methodLink RL 47 yX8_addChild ∈ wT := wAt_in (i := 752) (by decide +kernel)
theorem lX8_155 : Cond.methodLink RX8 155 yX8_checkRoomForChild ∈ wT := wAt_in (i := 756) (by decide +kernel)
theorem lX8_165 : Cond.methodLink RX8 165 yX1_begin ∈ wT := wAt_in (i := 761) (by decide +kernel)
theorem lL_155 : Cond.methodLink RL 155 yL_readChild ∈ wT := wAt_in (i := 765) (by decide +kernel)
theorem lL_50 : Cond.methodLink RL 50 yX8_readChild ∈ wT := wAt_in (i := 768) (by decide +kernel)
theorem lX8_168 : Cond.methodLink RX8 168 yX2_parse ∈ wT := wAt_in (i := 772) (by decide +kernel)
theorem lX2_25 : Cond.methodLink RX2 25 yX2_readNumber ∈ wT := wAt_in (i := 776) (by decide +kernel)
theorem lX2_52 : Cond.methodLink RX2 52 yX2_digitHere ∈ wT := wAt_in (i := 780) (by decide +kernel)
theorem lX2_32 : Cond.methodLink RX2 32 yX2_readSign ∈ wT := wAt_in (i := 784) (by decide +kernel)
theorem lX2_48 : Cond.methodLink RX2 48 yX2_readChoices ∈ wT := wAt_in (i := 788) (by decide +kernel)
theorem lX2_55 : Cond.methodLink RX2 55 yX2_hasChoice ∈ wT := wAt_in (i := 792) (by decide +kernel)
theorem lX8_198 : Cond.methodLink RX8 198 yX8_addChild ∈ wT := wAt_in (i := 797) (by decide +kernel)
theorem lX8_202 : Cond.methodLink RX8 202 yX1_putChoice ∈ wT := wAt_in (i := 798) (by decide +kernel)
theorem lL_159 : Cond.methodLink RL 159 yL_choose ∈ wT := wAt_in (i := 802) (by decide +kernel)
theorem lL_54 : Cond.methodLink RL 54 yX8_choose ∈ wT := wAt_in (i := 805) (by decide +kernel)
theorem lX8_205 : Cond.methodLink RX8 205 yX8_checkChild ∈ wT := wAt_in (i := 809) (by decide +kernel)
theorem lX8_208 : Cond.methodLink RX8 208 yX1_placeOf ∈ wT := wAt_in (i := 814) (by decide +kernel)
theorem lL_163 : Cond.methodLink RL 163 yL_setNeed ∈ wT := wAt_in (i := 816) (by decide +kernel)
theorem lL_58 : Cond.methodLink RL 58 yX8_setNeed ∈ wT := wAt_in (i := 819) (by decide +kernel)
theorem lL_166 : Cond.methodLink RL 166 yL_child ∈ wT := wAt_in (i := 823) (by decide +kernel)
theorem lL_61 : Cond.methodLink RL 61 yX8_child ∈ wT := wAt_in (i := 826) (by decide +kernel)
theorem lL_169 : Cond.methodLink RL 169 yL_choice ∈ wT := wAt_in (i := 830) (by decide +kernel)
theorem lL_64 : Cond.methodLink RL 64 yX8_choice ∈ wT := wAt_in (i := 833) (by decide +kernel)
theorem lL_172 : Cond.methodLink RL 172 yL_rank ∈ wT := wAt_in (i := 838) (by decide +kernel)
theorem lL_67 : Cond.methodLink RL 67 yX8_rank ∈ wT := wAt_in (i := 841) (by decide +kernel)
theorem lX8_231 : Cond.methodLink RX8 231 yX3_classOf ∈ wT := wAt_in (i := 845) (by decide +kernel)
theorem lX8_235 : Cond.methodLink RX8 235 yX7_distanceTo ∈ wT := wAt_in (i := 846) (by decide +kernel)
theorem lX8_239 : Cond.methodLink RX8 239 yX3_isSibling ∈ wT := wAt_in (i := 847) (by decide +kernel)
theorem lX8_247 : Cond.methodLink RX8 247 yX3_rollBefore ∈ wT := wAt_in (i := 848) (by decide +kernel)
theorem lL_175 : Cond.methodLink RL 175 yL_why ∈ wT := wAt_in (i := 849) (by decide +kernel)
theorem lL_70 : Cond.methodLink RL 70 yX8_why ∈ wT := wAt_in (i := 852) (by decide +kernel)
theorem lX8_253 : Cond.methodLink RX8 253 yX3_holdsClass ∈ wT := wAt_in (i := 856) (by decide +kernel)
theorem lL_182 : Cond.methodLink RL 182 yL_again ∈ wT := wAt_in (i := 860) (by decide +kernel)
theorem lL_73 : Cond.methodLink RL 73 yX8_again ∈ wT := wAt_in (i := 863) (by decide +kernel)
theorem lL_190 : Cond.methodLink RL 190 yL_withdraw ∈ wT := wAt_in (i := 867) (by decide +kernel)
theorem lL_77 : Cond.methodLink RL 77 yX8_withdraw ∈ wT := wAt_in (i := 871) (by decide +kernel)
theorem lX8_271 : Cond.methodLink RX8 271 yX3_moveChild ∈ wT := wAt_in (i := 891) (by decide +kernel)
theorem lL_193 : Cond.methodLink RL 193 yL_appeal ∈ wT := wAt_in (i := 892) (by decide +kernel)
theorem lL_82 : Cond.methodLink RL 82 yX8_appeal ∈ wT := wAt_in (i := 895) (by decide +kernel)
theorem lX8_275 : Cond.methodLink RX8 275 yX3_refusalOf ∈ wT := wAt_in (i := 899) (by decide +kernel)
theorem lL_196 : Cond.methodLink RL 196 yL_reason ∈ wT := wAt_in (i := 905) (by decide +kernel)
theorem lL_85 : Cond.methodLink RL 85 yX8_reason ∈ wT := wAt_in (i := 908) (by decide +kernel)
theorem lL_199 : Cond.methodLink RL 199 yL_entry ∈ wT := wAt_in (i := 913) (by decide +kernel)
theorem lL_88 : Cond.methodLink RL 88 yX8_entry ∈ wT := wAt_in (i := 916) (by decide +kernel)
theorem lX8_287 : Cond.methodLink RX8 287 yX5_keptCount ∈ wT := wAt_in (i := 920) (by decide +kernel)
theorem lL_202 : Cond.methodLink RL 202 yL_account ∈ wT := wAt_in (i := 922) (by decide +kernel)
theorem lL_91 : Cond.methodLink RL 91 yX8_account ∈ wT := wAt_in (i := 925) (by decide +kernel)
theorem lX8_297 : Cond.methodLink RX8 297 yX3_sumSeats ∈ wT := wAt_in (i := 929) (by decide +kernel)
theorem lX8_300 : Cond.methodLink RX8 300 yX3_sumAdded ∈ wT := wAt_in (i := 933) (by decide +kernel)
theorem lX8_306 : Cond.methodLink RX8 306 yX3_countAtFirstChoice ∈ wT := wAt_in (i := 937) (by decide +kernel)
theorem lX3_168 : Cond.methodLink RX3 168 yX1_placeOf ∈ wT := wAt_in (i := 941) (by decide +kernel)
theorem lX8_309 : Cond.methodLink RX8 309 yX3_countLeftOut ∈ wT := wAt_in (i := 942) (by decide +kernel)
theorem lX8_312 : Cond.methodLink RX8 312 yX3_sumDistances ∈ wT := wAt_in (i := 946) (by decide +kernel)
theorem lL_205 : Cond.methodLink RL 205 yL_meanDistance ∈ wT := wAt_in (i := 950) (by decide +kernel)
theorem lL_94 : Cond.methodLink RL 94 yX8_meanDistance ∈ wT := wAt_in (i := 967) (by decide +kernel)
theorem lL_209 : Cond.methodLink RL 209 yL_feed ∈ wT := wAt_in (i := 974) (by decide +kernel)
theorem lL_100 : Cond.methodLink RL 100 yX8_feed ∈ wT := wAt_in (i := 977) (by decide +kernel)
theorem lL_213 : Cond.methodLink RL 213 yL_errorPosition ∈ wT := wAt_in (i := 982) (by decide +kernel)
theorem lL_104 : Cond.methodLink RL 104 yX8_errorPosition ∈ wT := wAt_in (i := 985) (by decide +kernel)
theorem lL_216 : Cond.methodLink RL 216 yL_undo ∈ wT := wAt_in (i := 990) (by decide +kernel)
theorem lL_107 : Cond.methodLink RL 107 yX8_undo ∈ wT := wAt_in (i := 993) (by decide +kernel)
theorem lX8_333 : Cond.methodLink RX8 333 yX4_pop ∈ wT := wAt_in (i := 998) (by decide +kernel)
theorem lL_223 : Cond.methodLink RL 223 yL_restore ∈ wT := wAt_in (i := 1002) (by decide +kernel)
theorem lL_110 : Cond.methodLink RL 110 yX8_restore ∈ wT := wAt_in (i := 1005) (by decide +kernel)
theorem lL_116 : Cond.methodLink RL 116 yX9_init ∈ wT := wAt_in (i := 1012) (by decide +kernel)
theorem lL_123 : Cond.methodLink RL 123 yX9_thrown ∈ wT := wAt_in (i := 1072) (by decide +kernel)
theorem lL_122 : Cond.methodLink RL 122 yX9_addSchool ∈ wT := wAt_in (i := 1076) (by decide +kernel)
theorem lX9_45 : Cond.methodLink RX9 45 yX9_isIn ∈ wT := wAt_in (i := 1080) (by decide +kernel)
theorem lX9_82 : Cond.methodLink RX9 82 yX9_fail ∈ wT := wAt_in (i := 1083) (by decide +kernel)
theorem lX9_85 : Cond.methodLink RX9 85 yX9_remember ∈ wT := wAt_in (i := 1087) (by decide +kernel)
theorem lX9_88 : Cond.methodLink RX9 88 yX9_setS ∈ wT := wAt_in (i := 1091) (by decide +kernel)
theorem lL_129 : Cond.methodLink RL 129 yX9_setSeats ∈ wT := wAt_in (i := 1095) (by decide +kernel)
theorem lX9_131 : Cond.methodLink RX9 131 yX9_problem ∈ wT := wAt_in (i := 1099) (by decide +kernel)
theorem lX9_127 : Cond.methodLink RX9 127 yX9_isSchool ∈ wT := wAt_in (i := 1103) (by decide +kernel)
theorem lX9_135 : Cond.methodLink RX9 135 yX9_fills ∈ wT := wAt_in (i := 1107) (by decide +kernel)
theorem lX9_117 : Cond.methodLink RX9 117 yX9_schoolToFill ∈ wT := wAt_in (i := 1111) (by decide +kernel)
theorem lX9_104 : Cond.methodLink RX9 104 yX9_freeSeats ∈ wT := wAt_in (i := 1115) (by decide +kernel)
theorem lX9_53 : Cond.methodLink RX9 53 yX9_s ∈ wT := wAt_in (i := 1119) (by decide +kernel)
theorem lX9_78 : Cond.methodLink RX9 78 yX9_holds ∈ wT := wAt_in (i := 1123) (by decide +kernel)
theorem lX9_49 : Cond.methodLink RX9 49 yX9_c ∈ wT := wAt_in (i := 1127) (by decide +kernel)
theorem lX9_107 : Cond.methodLink RX9 107 yX9_waitingMany ∈ wT := wAt_in (i := 1131) (by decide +kernel)
theorem lX9_92 : Cond.methodLink RX9 92 yX9_prefers ∈ wT := wAt_in (i := 1135) (by decide +kernel)
theorem lX9_75 : Cond.methodLink RX9 75 yX9_placeOf ∈ wT := wAt_in (i := 1139) (by decide +kernel)
theorem lX9_121 : Cond.methodLink RX9 121 yX9_waitingAt ∈ wT := wAt_in (i := 1143) (by decide +kernel)
theorem lX9_98 : Cond.methodLink RX9 98 yX9_waitingAhead ∈ wT := wAt_in (i := 1147) (by decide +kernel)
theorem lX9_95 : Cond.methodLink RX9 95 yX9_isBetter ∈ wT := wAt_in (i := 1151) (by decide +kernel)
theorem lX9_72 : Cond.methodLink RX9 72 yX9_classAt ∈ wT := wAt_in (i := 1155) (by decide +kernel)
theorem lX9_66 : Cond.methodLink RX9 66 yX9_isSibling ∈ wT := wAt_in (i := 1159) (by decide +kernel)
theorem lX9_62 : Cond.methodLink RX9 62 yX9_has ∈ wT := wAt_in (i := 1163) (by decide +kernel)
theorem lX9_69 : Cond.methodLink RX9 69 yX9_isNear ∈ wT := wAt_in (i := 1166) (by decide +kernel)
theorem lX9_59 : Cond.methodLink RX9 59 yX9_distance ∈ wT := wAt_in (i := 1170) (by decide +kernel)
theorem lX9_56 : Cond.methodLink RX9 56 yX9_far ∈ wT := wAt_in (i := 1174) (by decide +kernel)
theorem lX9_124 : Cond.methodLink RX9 124 yX9_moves ∈ wT := wAt_in (i := 1177) (by decide +kernel)
theorem lX9_110 : Cond.methodLink RX9 110 yX9_notes ∈ wT := wAt_in (i := 1181) (by decide +kernel)
theorem lX9_114 : Cond.methodLink RX9 114 yX9_setC ∈ wT := wAt_in (i := 1185) (by decide +kernel)
theorem lL_132 : Cond.methodLink RL 132 yX9_setRadius ∈ wT := wAt_in (i := 1189) (by decide +kernel)
theorem lX9_138 : Cond.methodLink RX9 138 yX9_sets ∈ wT := wAt_in (i := 1193) (by decide +kernel)
theorem lL_135 : Cond.methodLink RL 135 yX9_setRule ∈ wT := wAt_in (i := 1197) (by decide +kernel)
theorem lL_138 : Cond.methodLink RL 138 yX9_setLimit ∈ wT := wAt_in (i := 1201) (by decide +kernel)
theorem lL_142 : Cond.methodLink RL 142 yX9_setPupils ∈ wT := wAt_in (i := 1205) (by decide +kernel)
theorem lL_145 : Cond.methodLink RL 145 yX9_school ∈ wT := wAt_in (i := 1209) (by decide +kernel)
theorem lX9_141 : Cond.methodLink RX9 141 yX9_nearMany ∈ wT := wAt_in (i := 1213) (by decide +kernel)
theorem lL_148 : Cond.methodLink RL 148 yX9_held ∈ wT := wAt_in (i := 1217) (by decide +kernel)
theorem lX9_144 : Cond.methodLink RX9 144 yX9_heldAt ∈ wT := wAt_in (i := 1221) (by decide +kernel)
theorem lX9_101 : Cond.methodLink RX9 101 yX9_heldAhead ∈ wT := wAt_in (i := 1225) (by decide +kernel)
theorem lL_151 : Cond.methodLink RL 151 yX9_waiting ∈ wT := wAt_in (i := 1229) (by decide +kernel)
theorem lL_154 : Cond.methodLink RL 154 yX9_addChild ∈ wT := wAt_in (i := 1233) (by decide +kernel)
theorem lX9_147 : Cond.methodLink RX9 147 yX9_areRight ∈ wT := wAt_in (i := 1237) (by decide +kernel)
theorem lX9_151 : Cond.methodLink RX9 151 yX9_comes ∈ wT := wAt_in (i := 1240) (by decide +kernel)
theorem lL_158 : Cond.methodLink RL 158 yX9_readChild ∈ wT := wAt_in (i := 1244) (by decide +kernel)
theorem lX9_182 : Cond.methodLink RX9 182 yX9_number ∈ wT := wAt_in (i := 1248) (by decide +kernel)
theorem lX9_169 : Cond.methodLink RX9 169 yX9_digit ∈ wT := wAt_in (i := 1252) (by decide +kernel)
theorem lX9_165 : Cond.methodLink RX9 165 yX9_isAt ∈ wT := wAt_in (i := 1256) (by decide +kernel)
theorem lX9_185 : Cond.methodLink RX9 185 yX9_expects ∈ wT := wAt_in (i := 1260) (by decide +kernel)
theorem lX9_189 : Cond.methodLink RX9 189 yX9_readsChoices ∈ wT := wAt_in (i := 1264) (by decide +kernel)
theorem lX9_175 : Cond.methodLink RX9 175 yX9_isNewChoice ∈ wT := wAt_in (i := 1268) (by decide +kernel)
theorem lL_162 : Cond.methodLink RL 162 yX9_choose ∈ wT := wAt_in (i := 1272) (by decide +kernel)
theorem lX9_192 : Cond.methodLink RX9 192 yX9_isChild ∈ wT := wAt_in (i := 1276) (by decide +kernel)
theorem lL_165 : Cond.methodLink RL 165 yX9_setNeed ∈ wT := wAt_in (i := 1280) (by decide +kernel)
theorem lL_168 : Cond.methodLink RL 168 yX9_child ∈ wT := wAt_in (i := 1284) (by decide +kernel)
theorem lL_171 : Cond.methodLink RL 171 yX9_choice ∈ wT := wAt_in (i := 1288) (by decide +kernel)
theorem lL_174 : Cond.methodLink RL 174 yX9_rank ∈ wT := wAt_in (i := 1292) (by decide +kernel)
theorem lL_177 : Cond.methodLink RL 177 yX9_why ∈ wT := wAt_in (i := 1296) (by decide +kernel)
theorem lX9_195 : Cond.methodLink RX9 195 yX9_holdsWorse ∈ wT := wAt_in (i := 1300) (by decide +kernel)
theorem lX9_198 : Cond.methodLink RX9 198 yX9_holdsLike ∈ wT := wAt_in (i := 1304) (by decide +kernel)
theorem lL_181 : Cond.methodLink RL 181 yX9_allocate ∈ wT := wAt_in (i := 1308) (by decide +kernel)
theorem lX9_216 : Cond.methodLink RX9 216 yX9_allocates ∈ wT := wAt_in (i := 1312) (by decide +kernel)
theorem lX9_209 : Cond.methodLink RX9 209 yX9_round ∈ wT := wAt_in (i := 1316) (by decide +kernel)
theorem lX9_201 : Cond.methodLink RX9 201 yX9_asker ∈ wT := wAt_in (i := 1320) (by decide +kernel)
theorem lX9_205 : Cond.methodLink RX9 205 yX9_asks ∈ wT := wAt_in (i := 1324) (by decide +kernel)
theorem lX9_213 : Cond.methodLink RX9 213 yX9_marks ∈ wT := wAt_in (i := 1328) (by decide +kernel)
theorem lL_185 : Cond.methodLink RL 185 yX9_again ∈ wT := wAt_in (i := 1332) (by decide +kernel)
theorem lL_189 : Cond.methodLink RL 189 yX9_unstable ∈ wT := wAt_in (i := 1336) (by decide +kernel)
theorem lL_192 : Cond.methodLink RL 192 yX9_withdraw ∈ wT := wAt_in (i := 1340) (by decide +kernel)
theorem lL_195 : Cond.methodLink RL 195 yX9_appeal ∈ wT := wAt_in (i := 1344) (by decide +kernel)
theorem lX9_219 : Cond.methodLink RX9 219 yX9_refusal ∈ wT := wAt_in (i := 1348) (by decide +kernel)
theorem lL_198 : Cond.methodLink RL 198 yX9_reason ∈ wT := wAt_in (i := 1352) (by decide +kernel)
theorem lL_201 : Cond.methodLink RL 201 yX9_entry ∈ wT := wAt_in (i := 1356) (by decide +kernel)
theorem lL_204 : Cond.methodLink RL 204 yX9_account ∈ wT := wAt_in (i := 1360) (by decide +kernel)
theorem lX9_225 : Cond.methodLink RX9 225 yX9_sumOf ∈ wT := wAt_in (i := 1364) (by decide +kernel)
theorem lX9_228 : Cond.methodLink RX9 228 yX9_sumOfChildren ∈ wT := wAt_in (i := 1368) (by decide +kernel)
theorem lL_208 : Cond.methodLink RL 208 yX9_meanDistance ∈ wT := wAt_in (i := 1372) (by decide +kernel)
theorem lL_212 : Cond.methodLink RL 212 yX9_feed ∈ wT := wAt_in (i := 1376) (by decide +kernel)
theorem lL_215 : Cond.methodLink RL 215 yX9_errorPosition ∈ wT := wAt_in (i := 1380) (by decide +kernel)
theorem lL_218 : Cond.methodLink RL 218 yX9_undo ∈ wT := wAt_in (i := 1384) (by decide +kernel)
theorem lL_222 : Cond.methodLink RL 222 yX9_save ∈ wT := wAt_in (i := 1388) (by decide +kernel)
theorem lL_225 : Cond.methodLink RL 225 yX9_restore ∈ wT := wAt_in (i := 1392) (by decide +kernel)
theorem fX7_9 : flk flX7 9 = some (6, 0) := rfl
theorem fX7_15 : flk flX7 15 = some (6, 1) := rfl
theorem fX7_18 : flk flX7 18 = some (6, 2) := rfl
theorem fX7_21 : flk flX7 21 = some (6, 3) := rfl
theorem fX7_24 : flk flX7 24 = some (6, 4) := rfl
theorem fX7_27 : flk flX7 27 = some (6, 5) := rfl
theorem fX7_30 : flk flX7 30 = some (6, 6) := rfl
theorem fX7_33 : flk flX7 33 = some (1, 2) := rfl
theorem fX7_42 : flk flX7 42 = some (1, 3) := rfl
theorem fX8_10 : flk flX8 10 = some (7, 0) := rfl
theorem fX8_16 : flk flX8 16 = some (7, 1) := rfl
theorem fX8_22 : flk flX8 22 = some (7, 2) := rfl
theorem fX8_29 : flk flX8 29 = some (7, 3) := rfl
theorem fX8_36 : flk flX8 36 = some (7, 4) := rfl
theorem fX8_40 : flk flX8 40 = some (7, 5) := rfl
theorem fX8_44 : flk flX8 44 = some (7, 6) := rfl
theorem fX8_48 : flk flX8 48 = some (7, 7) := rfl
theorem fX8_55 : flk flX8 55 = some (3, 4) := rfl
theorem fX8_69 : flk flX8 69 = some (3, 0) := rfl
theorem fX8_83 : flk flX8 83 = some (6, 2) := rfl
theorem fX8_90 : flk flX8 90 = some (6, 3) := rfl
theorem fX8_93 : flk flX8 93 = some (6, 4) := rfl
theorem fX8_96 : flk flX8 96 = some (6, 5) := rfl
theorem fX8_104 : flk flX8 104 = some (3, 2) := rfl
theorem fX8_112 : flk flX8 112 = some (6, 6) := rfl
theorem fX8_158 : flk flX8 158 = some (3, 5) := rfl
theorem fX8_161 : flk flX8 161 = some (3, 1) := rfl
theorem fX8_172 : flk flX8 172 = some (2, 2) := rfl
theorem fX8_175 : flk flX8 175 = some (2, 3) := rfl
theorem fX8_180 : flk flX8 180 = some (2, 8) := rfl
theorem fX8_183 : flk flX8 183 = some (2, 1) := rfl
theorem fX8_186 : flk flX8 186 = some (2, 4) := rfl
theorem fX8_189 : flk flX8 189 = some (2, 5) := rfl
theorem fX8_192 : flk flX8 192 = some (2, 6) := rfl
theorem fX8_195 : flk flX8 195 = some (2, 7) := rfl
theorem fX8_211 : flk flX8 211 = some (1, 1) := rfl
theorem fX8_214 : flk flX8 214 = some (1, 6) := rfl
theorem fX8_217 : flk flX8 217 = some (1, 4) := rfl
theorem fX8_218 : flk flX8 218 = some (1, 5) := rfl
theorem fX8_219 : flk flX8 219 = some (1, 7) := rfl
theorem fX8_222 : flk flX8 222 = some (1, 8) := rfl
theorem fX8_225 : flk flX8 225 = some (1, 9) := rfl
theorem fX8_230 : flk flX8 230 = some (1, 0) := rfl
theorem fX8_264 : flk flX8 264 = some (0, 0) := rfl
theorem fX8_283 : flk flX8 283 = some (3, 3) := rfl
theorem fX8_294 : flk flX8 294 = some (5, 0) := rfl
theorem fX8_315 : flk flX8 315 = some (5, 1) := rfl
theorem fX8_318 : flk flX8 318 = some (4, 2) := rfl
theorem fX8_326 : flk flX8 326 = some (2, 0) := rfl
theorem fX0_9 : flk flX0 9 = some (0, 0) := rfl
theorem fX0_15 : flk flX0 15 = some (0, 1) := rfl
theorem fX0_18 : flk flX0 18 = some (0, 2) := rfl
theorem fX0_21 : flk flX0 21 = some (0, 3) := rfl
theorem fX0_41 : flk flX0 41 = some (3, 1) := rfl
theorem fX0_47 : flk flX0 47 = some (1, 0) := rfl
theorem fX0_56 : flk flX0 56 = some (3, 5) := rfl
theorem fX0_60 : flk flX0 60 = some (3, 4) := rfl
theorem fX0_67 : flk flX0 67 = some (1, 1) := rfl
theorem fX0_74 : flk flX0 74 = some (3, 0) := rfl
theorem fX0_78 : flk flX0 78 = some (6, 2) := rfl
theorem fX0_90 : flk flX0 90 = some (1, 4) := rfl
theorem fX3_11 : flk flX3 11 = some (3, 0) := rfl
theorem fX3_20 : flk flX3 20 = some (3, 1) := rfl
theorem fX3_25 : flk flX3 25 = some (3, 2) := rfl
theorem fX3_32 : flk flX3 32 = some (3, 3) := rfl
theorem fX3_36 : flk flX3 36 = some (3, 4) := rfl
theorem fX3_40 : flk flX3 40 = some (3, 5) := rfl
theorem fX3_59 : flk flX3 59 = some (1, 4) := rfl
theorem fX3_66 : flk flX3 66 = some (1, 6) := rfl
theorem fX3_77 : flk flX3 77 = some (6, 3) := rfl
theorem fX3_80 : flk flX3 80 = some (6, 4) := rfl
theorem fX3_87 : flk flX3 87 = some (1, 5) := rfl
theorem fX3_96 : flk flX3 96 = some (1, 7) := rfl
theorem fX3_103 : flk flX3 103 = some (1, 8) := rfl
theorem fX3_118 : flk flX3 118 = some (6, 2) := rfl
theorem fX3_121 : flk flX3 121 = some (6, 6) := rfl
theorem fX3_153 : flk flX3 153 = some (1, 9) := rfl
theorem fX3_156 : flk flX3 156 = some (0, 1) := rfl
theorem fX3_160 : flk flX3 160 = some (0, 0) := rfl
theorem fX3_165 : flk flX3 165 = some (6, 5) := rfl
theorem fX3_171 : flk flX3 171 = some (1, 1) := rfl
theorem fX1_9 : flk flX1 9 = some (1, 0) := rfl
theorem fX1_15 : flk flX1 15 = some (1, 6) := rfl
theorem fX1_19 : flk flX1 19 = some (1, 7) := rfl
theorem fX1_22 : flk flX1 22 = some (1, 1) := rfl
theorem fX1_25 : flk flX1 25 = some (1, 2) := rfl
theorem fX1_28 : flk flX1 28 = some (1, 3) := rfl
theorem fX1_31 : flk flX1 31 = some (1, 4) := rfl
theorem fX1_34 : flk flX1 34 = some (1, 5) := rfl
theorem fX1_37 : flk flX1 37 = some (1, 8) := rfl
theorem fX1_40 : flk flX1 40 = some (1, 9) := rfl
theorem fX5_9 : flk flX5 9 = some (5, 0) := rfl
theorem fX5_15 : flk flX5 15 = some (5, 1) := rfl
theorem fX4_11 : flk flX4 11 = some (4, 0) := rfl
theorem fX4_18 : flk flX4 18 = some (4, 1) := rfl
theorem fX4_26 : flk flX4 26 = some (4, 2) := rfl
theorem fX2_9 : flk flX2 9 = some (2, 0) := rfl
theorem fX2_15 : flk flX2 15 = some (2, 1) := rfl
theorem fX2_18 : flk flX2 18 = some (2, 3) := rfl
theorem fX2_22 : flk flX2 22 = some (2, 8) := rfl
theorem fX2_29 : flk flX2 29 = some (2, 4) := rfl
theorem fX2_36 : flk flX2 36 = some (2, 5) := rfl
theorem fX2_39 : flk flX2 39 = some (2, 6) := rfl
theorem fX2_42 : flk flX2 42 = some (2, 7) := rfl
theorem fX2_45 : flk flX2 45 = some (2, 2) := rfl
theorem fX9_9 : flk flX9 9 = some (8, 0) := rfl
theorem fX9_13 : flk flX9 13 = some (8, 1) := rfl
theorem fX9_16 : flk flX9 16 = some (8, 3) := rfl
theorem fX9_19 : flk flX9 19 = some (8, 5) := rfl
theorem fX9_22 : flk flX9 22 = some (8, 8) := rfl
theorem fX9_26 : flk flX9 26 = some (8, 9) := rfl
theorem fX9_30 : flk flX9 30 = some (8, 15) := rfl
theorem fX9_33 : flk flX9 33 = some (8, 16) := rfl
theorem fX9_36 : flk flX9 36 = some (8, 17) := rfl
theorem fX9_39 : flk flX9 39 = some (8, 6) := rfl
theorem fX9_42 : flk flX9 42 = some (8, 2) := rfl
theorem fX9_155 : flk flX9 155 = some (8, 13) := rfl
theorem fX9_159 : flk flX9 159 = some (8, 12) := rfl
theorem fX9_162 : flk flX9 162 = some (8, 11) := rfl
theorem fX9_172 : flk flX9 172 = some (8, 14) := rfl
theorem fX9_179 : flk flX9 179 = some (8, 10) := rfl
theorem fX9_222 : flk flX9 222 = some (8, 7) := rfl
theorem fX9_231 : flk flX9 231 = some (8, 4) := rfl
