set_option maxRecDepth 100000 in
theorem tb_in {w : Cond} (i : Nat) (h : tables_1[i]? = some w) (g : goodWord w = true) : w ∈ WS := WS_in (List.mem_append_right _ (List.mem_of_getElem? h)) g
set_option maxRecDepth 100000 in
theorem pv_in {w : Cond} (i : Nat) (h : (k2_sels lw_privs)[i]? = some w) (g : goodWord w = true) : w ∈ WS := WS_in (List.mem_append_left _ (List.mem_of_getElem? h)) g
set_option maxRecDepth 100000 in
theorem wm_X3_3 : Cond.methodLink RX3 3 objectInit ∈ WS := tb_in 26 (by decide +kernel) (by decide +kernel)
set_option maxRecDepth 100000 in
theorem wc_X3_9 : Cond.classLink RX3 9 "OpalField$Ground" ∈ WS := tb_in 29 (by decide +kernel) (by decide +kernel)
set_option maxRecDepth 100000 in
theorem wm_X3_11 : Cond.methodLink RX3 11 yX1_init ∈ WS := tb_in 31 (by decide +kernel) (by decide +kernel)
set_option maxRecDepth 100000 in
theorem wf_X3_12 : Cond.fieldLink RX3 12 "OpalField" "ground" "LOpalField$Ground;" ∈ WS := tb_in 92 (by decide +kernel) (by decide +kernel)
set_option maxRecDepth 100000 in
theorem wc_X3_16 : Cond.classLink RX3 16 "java/util/ArrayList" ∈ WS := tb_in 65 (by decide +kernel) (by decide +kernel)
set_option maxRecDepth 100000 in
theorem wm_X3_18 : Cond.methodLink RX3 18 yJx4a65c_init_da8c8 ∈ WS := tb_in 67 (by decide +kernel) (by decide +kernel)
set_option maxRecDepth 100000 in
theorem wf_X3_19 : Cond.fieldLink RX3 19 "OpalField" "claims" "Ljava/util/ArrayList;" ∈ WS := tb_in 93 (by decide +kernel) (by decide +kernel)
set_option maxRecDepth 100000 in
theorem wf_X3_23 : Cond.fieldLink RX3 23 "OpalField" "stones" "Ljava/util/ArrayList;" ∈ WS := tb_in 94 (by decide +kernel) (by decide +kernel)
set_option maxRecDepth 100000 in
theorem wf_X3_26 : Cond.fieldLink RX3 26 "OpalField" "money" "[I" ∈ WS := tb_in 95 (by decide +kernel) (by decide +kernel)
set_option maxRecDepth 100000 in
theorem wf_X3_30 : Cond.fieldLink RX3 30 "OpalField" "barredTo" "[I" ∈ WS := tb_in 96 (by decide +kernel) (by decide +kernel)
set_option maxRecDepth 100000 in
theorem wf_X3_33 : Cond.fieldLink RX3 33 "OpalField" "caught" "[I" ∈ WS := tb_in 97 (by decide +kernel) (by decide +kernel)
set_option maxRecDepth 100000 in
theorem wf_X3_36 : Cond.fieldLink RX3 36 "OpalField" "purses" "[I" ∈ WS := tb_in 98 (by decide +kernel) (by decide +kernel)
set_option maxRecDepth 100000 in
theorem wm_X3_39 : Cond.methodLink RX3 39 yJ7_fill_53178 ∈ WS := tb_in 91 (by decide +kernel) (by decide +kernel)
set_option maxRecDepth 100000 in
theorem wf_X3_45 : Cond.fieldLink RX3 45 "OpalField" "given" "[I" ∈ WS := tb_in 99 (by decide +kernel) (by decide +kernel)
set_option maxRecDepth 100000 in
theorem wf_X3_48 : Cond.fieldLink RX3 48 "OpalField" "diggable" "[I" ∈ WS := tb_in 100 (by decide +kernel) (by decide +kernel)
set_option maxRecDepth 100000 in
theorem wm_X3_51 : Cond.methodLink RX3 51 yX3_needCell ∈ WS := tb_in 137 (by decide +kernel) (by decide +kernel)
set_option maxRecDepth 100000 in
theorem wm_X3_55 : Cond.methodLink RX3 55 yX3_needRange ∈ WS := tb_in 211 (by decide +kernel) (by decide +kernel)
set_option maxRecDepth 100000 in
theorem wf_X3_59 : Cond.fieldLink RX3 59 "OpalField$Ground" "state" "[I" ∈ WS := tb_in 39 (by decide +kernel) (by decide +kernel)
set_option maxRecDepth 100000 in
theorem wc_X3_62 : Cond.classLink RX3 62 "java/lang/IllegalStateException" ∈ WS := tb_in 230 (by decide +kernel) (by decide +kernel)
set_option maxRecDepth 100000 in
theorem wf_X3_69 : Cond.fieldLink RX3 69 "OpalField$Ground" "told" "[I" ∈ WS := tb_in 41 (by decide +kernel) (by decide +kernel)
set_option maxRecDepth 100000 in
theorem wf_X3_74 : Cond.fieldLink RX3 74 "OpalField$Ground" "carats" "[I" ∈ WS := tb_in 43 (by decide +kernel) (by decide +kernel)
set_option maxRecDepth 100000 in
theorem wf_X3_77 : Cond.fieldLink RX3 77 "OpalField$Ground" "depth" "[I" ∈ WS := tb_in 45 (by decide +kernel) (by decide +kernel)
set_option maxRecDepth 100000 in
theorem wf_X3_80 : Cond.fieldLink RX3 80 "OpalField" "now" "I" ∈ WS := tb_in 101 (by decide +kernel) (by decide +kernel)
set_option maxRecDepth 100000 in
theorem wm_X3_86 : Cond.methodLink RX3 86 yX3_needPerson ∈ WS := tb_in 262 (by decide +kernel) (by decide +kernel)
set_option maxRecDepth 100000 in
theorem wc_X3_89 : Cond.classLink RX3 89 "java/lang/IllegalArgumentException" ∈ WS := tb_in 214 (by decide +kernel) (by decide +kernel)
set_option maxRecDepth 100000 in
theorem wm_X3_94 : Cond.methodLink RX3 94 yJx4a65c_size_8abf5 ∈ WS := tb_in 267 (by decide +kernel) (by decide +kernel)
set_option maxRecDepth 100000 in
theorem wm_X3_100 : Cond.methodLink RX3 100 yX3_needFree ∈ WS := tb_in 272 (by decide +kernel) (by decide +kernel)
set_option maxRecDepth 100000 in
theorem wc_X3_103 : Cond.classLink RX3 103 "OpalField$Claim" ∈ WS := tb_in 284 (by decide +kernel) (by decide +kernel)
set_option maxRecDepth 100000 in
theorem wm_X3_105 : Cond.methodLink RX3 105 yX0_init ∈ WS := tb_in 286 (by decide +kernel) (by decide +kernel)
set_option maxRecDepth 100000 in
theorem wm_X3_108 : Cond.methodLink RX3 108 yJx4a65c_add_9ea2d ∈ WS := tb_in 327 (by decide +kernel) (by decide +kernel)
set_option maxRecDepth 100000 in
theorem wm_X3_112 : Cond.methodLink RX3 112 yX3_claimAt ∈ WS := tb_in 388 (by decide +kernel) (by decide +kernel)
set_option maxRecDepth 100000 in
theorem wm_X3_116 : Cond.methodLink RX3 116 yX0_isOfPeople ∈ WS := tb_in 407 (by decide +kernel) (by decide +kernel)
set_option maxRecDepth 100000 in
theorem wf_X3_122 : Cond.fieldLink RX3 122 "OpalField$Claim" "hoursTold" "[I" ∈ WS := tb_in 305 (by decide +kernel) (by decide +kernel)
set_option maxRecDepth 100000 in
theorem wm_X3_127 : Cond.methodLink RX3 127 yX0_middleHourTold ∈ WS := tb_in 413 (by decide +kernel) (by decide +kernel)
set_option maxRecDepth 100000 in
theorem wf_X3_130 : Cond.fieldLink RX3 130 "OpalField$Claim" "hour" "I" ∈ WS := tb_in 298 (by decide +kernel) (by decide +kernel)
set_option maxRecDepth 100000 in
theorem wf_X3_133 : Cond.fieldLink RX3 133 "OpalField$Claim" "shares" "[I" ∈ WS := tb_in 303 (by decide +kernel) (by decide +kernel)
set_option maxRecDepth 100000 in
theorem wf_X3_136 : Cond.fieldLink RX3 136 "OpalField$Claim" "owner" "I" ∈ WS := tb_in 292 (by decide +kernel) (by decide +kernel)
set_option maxRecDepth 100000 in
theorem wm_X3_141 : Cond.methodLink RX3 141 yX3_claimAtHand ∈ WS := tb_in 439 (by decide +kernel) (by decide +kernel)
set_option maxRecDepth 100000 in
theorem wm_X3_145 : Cond.methodLink RX3 145 yX1_canBeDug ∈ WS := tb_in 462 (by decide +kernel) (by decide +kernel)
set_option maxRecDepth 100000 in
theorem wm_X3_150 : Cond.methodLink RX3 150 yX3_work ∈ WS := tb_in 472 (by decide +kernel) (by decide +kernel)
set_option maxRecDepth 100000 in
theorem wm_X3_154 : Cond.methodLink RX3 154 yX1_isOpen ∈ WS := tb_in 559 (by decide +kernel) (by decide +kernel)
set_option maxRecDepth 100000 in
theorem wf_X3_159 : Cond.fieldLink RX3 159 "OpalField$Claim" "shafts" "I" ∈ WS := tb_in 301 (by decide +kernel) (by decide +kernel)
set_option maxRecDepth 100000 in
theorem wf_X3_166 : Cond.fieldLink RX3 166 "OpalField$Ground" "propped" "[Z" ∈ WS := tb_in 47 (by decide +kernel) (by decide +kernel)
set_option maxRecDepth 100000 in
theorem wf_X3_172 : Cond.fieldLink RX3 172 "OpalField$Ground" "trapper" "[I" ∈ WS := tb_in 49 (by decide +kernel) (by decide +kernel)
set_option maxRecDepth 100000 in
theorem wm_X3_177 : Cond.methodLink RX3 177 yX1_trapsOf ∈ WS := tb_in 579 (by decide +kernel) (by decide +kernel)
set_option maxRecDepth 100000 in
theorem wm_X3_183 : Cond.methodLink RX3 183 yX3_isNight ∈ WS := tb_in 592 (by decide +kernel) (by decide +kernel)
set_option maxRecDepth 100000 in
theorem wm_X3_189 : Cond.methodLink RX3 189 yX3_holderOf ∈ WS := tb_in 444 (by decide +kernel) (by decide +kernel)
set_option maxRecDepth 100000 in
theorem wm_X3_194 : Cond.methodLink RX3 194 yX3_uncover ∈ WS := tb_in 476 (by decide +kernel) (by decide +kernel)
set_option maxRecDepth 100000 in
theorem wm_X3_198 : Cond.methodLink RX3 198 yX3_stonesInParcel ∈ WS := tb_in 605 (by decide +kernel) (by decide +kernel)
set_option maxRecDepth 100000 in
theorem wm_X3_203 : Cond.methodLink RX3 203 yX3_caratsInParcel ∈ WS := tb_in 619 (by decide +kernel) (by decide +kernel)
set_option maxRecDepth 100000 in
theorem wm_X3_206 : Cond.methodLink RX3 206 yX3_heaviestInParcel ∈ WS := tb_in 623 (by decide +kernel) (by decide +kernel)
set_option maxRecDepth 100000 in
theorem wm_X3_209 : Cond.methodLink RX3 209 yX3_stoneAt ∈ WS := tb_in 627 (by decide +kernel) (by decide +kernel)
set_option maxRecDepth 100000 in
theorem wm_X3_213 : Cond.methodLink RX3 213 yX0_mostWanting ∈ WS := tb_in 632 (by decide +kernel) (by decide +kernel)
set_option maxRecDepth 100000 in
theorem wf_X3_217 : Cond.fieldLink RX3 217 "OpalField$Stone" "person" "I" ∈ WS := tb_in 497 (by decide +kernel) (by decide +kernel)
set_option maxRecDepth 100000 in
theorem wf_X3_222 : Cond.fieldLink RX3 222 "OpalField$Stone" "carats" "I" ∈ WS := tb_in 492 (by decide +kernel) (by decide +kernel)
set_option maxRecDepth 100000 in
theorem wm_X3_224 : Cond.methodLink RX3 224 yX3_needOfPerson ∈ WS := tb_in 648 (by decide +kernel) (by decide +kernel)
set_option maxRecDepth 100000 in
theorem wm_X3_228 : Cond.methodLink RX3 228 yX2_lustre ∈ WS := tb_in 653 (by decide +kernel) (by decide +kernel)
set_option maxRecDepth 100000 in
theorem wf_X3_233 : Cond.fieldLink RX3 233 "OpalField$Stone" "lost" "I" ∈ WS := tb_in 493 (by decide +kernel) (by decide +kernel)
set_option maxRecDepth 100000 in
theorem wf_X3_236 : Cond.fieldLink RX3 236 "OpalField$Stone" "rubs" "I" ∈ WS := tb_in 495 (by decide +kernel) (by decide +kernel)
set_option maxRecDepth 100000 in
theorem wm_X3_239 : Cond.methodLink RX3 239 yX3_needBuyer ∈ WS := tb_in 665 (by decide +kernel) (by decide +kernel)
set_option maxRecDepth 100000 in
theorem wk_X3_242 : Cond.constant RX3 242 99999 ∈ WS := tb_in 669 (by decide +kernel) (by decide +kernel)
set_option maxRecDepth 100000 in
theorem wf_X3_243 : Cond.fieldLink RX3 243 "OpalField$Stone" "prices" "[I" ∈ WS := tb_in 502 (by decide +kernel) (by decide +kernel)
set_option maxRecDepth 100000 in
theorem wf_X3_248 : Cond.fieldLink RX3 248 "OpalField$Stone" "turns" "[I" ∈ WS := tb_in 504 (by decide +kernel) (by decide +kernel)
set_option maxRecDepth 100000 in
theorem wf_X3_251 : Cond.fieldLink RX3 251 "OpalField$Stone" "bids" "I" ∈ WS := tb_in 500 (by decide +kernel) (by decide +kernel)
set_option maxRecDepth 100000 in
theorem wm_X3_254 : Cond.methodLink RX3 254 yX2_bestBidder ∈ WS := tb_in 678 (by decide +kernel) (by decide +kernel)
set_option maxRecDepth 100000 in
theorem wf_X3_260 : Cond.fieldLink RX3 260 "OpalField$Stone" "buyer" "I" ∈ WS := tb_in 499 (by decide +kernel) (by decide +kernel)
set_option maxRecDepth 100000 in
theorem wm_X3_263 : Cond.methodLink RX3 263 yX1_caratsAround ∈ WS := tb_in 694 (by decide +kernel) (by decide +kernel)
set_option maxRecDepth 100000 in
theorem wm_X3_266 : Cond.methodLink RX3 266 yX3_oneIf ∈ WS := tb_in 617 (by decide +kernel) (by decide +kernel)
set_option maxRecDepth 100000 in
theorem wm_X3_272 : Cond.methodLink RX3 272 yX0_isLive ∈ WS := tb_in 452 (by decide +kernel) (by decide +kernel)
set_option maxRecDepth 100000 in
theorem wm_X3_275 : Cond.methodLink RX3 275 yX3_cellsHeldBy ∈ WS := tb_in 717 (by decide +kernel) (by decide +kernel)
set_option maxRecDepth 100000 in
theorem wm_X3_278 : Cond.methodLink RX3 278 yX0_hoursToLapse ∈ WS := tb_in 721 (by decide +kernel) (by decide +kernel)
set_option maxRecDepth 100000 in
theorem wm_X3_285 : Cond.methodLink RX3 285 yX0_overlaps ∈ WS := tb_in 738 (by decide +kernel) (by decide +kernel)
set_option maxRecDepth 100000 in
theorem wm_X3_289 : Cond.methodLink RX3 289 Lib.Math.min.name ∈ WS := tb_in 742 (by decide +kernel) (by decide +kernel)
set_option maxRecDepth 100000 in
theorem wm_X3_295 : Cond.methodLink RX3 295 yX3_hoursBarred ∈ WS := tb_in 276 (by decide +kernel) (by decide +kernel)
set_option maxRecDepth 100000 in
theorem wm_X3_298 : Cond.methodLink RX3 298 yX3_stonesOfPerson ∈ WS := tb_in 750 (by decide +kernel) (by decide +kernel)
set_option maxRecDepth 100000 in
theorem wf_X3_303 : Cond.fieldLink RX3 303 "OpalField$Stone" "claim" "I" ∈ WS := tb_in 490 (by decide +kernel) (by decide +kernel)
set_option maxRecDepth 100000 in
theorem wm_X3_306 : Cond.methodLink RX3 306 yX2_value ∈ WS := tb_in 762 (by decide +kernel) (by decide +kernel)
set_option maxRecDepth 100000 in
theorem wf_X3_309 : Cond.fieldLink RX3 309 "OpalField$Stone" "cell" "I" ∈ WS := tb_in 487 (by decide +kernel) (by decide +kernel)
set_option maxRecDepth 100000 in
theorem wm_X3_314 : Cond.methodLink RX3 314 yX3_sum ∈ WS := tb_in 782 (by decide +kernel) (by decide +kernel)
set_option maxRecDepth 100000 in
theorem wm_X3_317 : Cond.methodLink RX3 317 yX3_caratsOfStones ∈ WS := tb_in 785 (by decide +kernel) (by decide +kernel)
set_option maxRecDepth 100000 in
theorem wm_X3_320 : Cond.methodLink RX3 320 yX3_caratsLost ∈ WS := tb_in 789 (by decide +kernel) (by decide +kernel)
set_option maxRecDepth 100000 in
theorem wm_X3_325 : Cond.methodLink RX3 325 yX3_listDiggable ∈ WS := tb_in 801 (by decide +kernel) (by decide +kernel)
set_option maxRecDepth 100000 in
theorem wm_X3_328 : Cond.methodLink RX3 328 yX3_mostBySets ∈ WS := tb_in 805 (by decide +kernel) (by decide +kernel)
set_option maxRecDepth 100000 in
theorem wm_X3_332 : Cond.methodLink RX3 332 yX3_mostByRows ∈ WS := tb_in 824 (by decide +kernel) (by decide +kernel)
set_option maxRecDepth 100000 in
theorem wm_X3_336 : Cond.methodLink RX3 336 yX3_isCell ∈ WS := tb_in 140 (by decide +kernel) (by decide +kernel)
set_option maxRecDepth 100000 in
theorem wc_X3_339 : Cond.classLink RX3 339 "java/lang/IndexOutOfBoundsException" ∈ WS := tb_in 143 (by decide +kernel) (by decide +kernel)
set_option maxRecDepth 100000 in
theorem wm_X3_350 : Cond.methodLink RX3 350 yJx4a65c_get_915e3 ∈ WS := tb_in 393 (by decide +kernel) (by decide +kernel)
set_option maxRecDepth 100000 in
theorem wc_X3_218 : Cond.classLink RX3 218 "OpalField$Stone" ∈ WS := tb_in 480 (by decide +kernel) (by decide +kernel)
set_option maxRecDepth 100000 in
theorem wm_X3_364 : Cond.methodLink RX3 364 yX2_place ∈ WS := tb_in 651 (by decide +kernel) (by decide +kernel)
set_option maxRecDepth 100000 in
theorem wm_X3_369 : Cond.methodLink RX3 369 Lib.Math.max.name ∈ WS := tb_in 280 (by decide +kernel) (by decide +kernel)
set_option maxRecDepth 100000 in
theorem wm_X3_372 : Cond.methodLink RX3 372 yX0_covers ∈ WS := tb_in 448 (by decide +kernel) (by decide +kernel)
set_option maxRecDepth 100000 in
theorem wf_X3_375 : Cond.fieldLink RX3 375 "OpalField$Claim" "lastWorked" "I" ∈ WS := tb_in 300 (by decide +kernel) (by decide +kernel)
set_option maxRecDepth 100000 in
theorem wm_X3_378 : Cond.methodLink RX3 378 yX2_init ∈ WS := tb_in 482 (by decide +kernel) (by decide +kernel)
set_option maxRecDepth 100000 in
theorem wm_X3_379 : Cond.methodLink RX3 379 yX1_fall ∈ WS := tb_in 528 (by decide +kernel) (by decide +kernel)
set_option maxRecDepth 100000 in
theorem wm_X3_382 : Cond.methodLink RX3 382 yX2_isInParcelOf ∈ WS := tb_in 609 (by decide +kernel) (by decide +kernel)
set_option maxRecDepth 100000 in
theorem wm_X3_385 : Cond.methodLink RX3 385 yX1_canBeDugSafely ∈ WS := tb_in 808 (by decide +kernel) (by decide +kernel)
set_option maxRecDepth 100000 in
theorem wm_X3_388 : Cond.methodLink RX3 388 yX1_openForNow ∈ WS := tb_in 813 (by decide +kernel) (by decide +kernel)
set_option maxRecDepth 100000 in
theorem wm_X4_1 : Cond.methodLink RX4 1 objectInit ∈ WS := tb_in 832 (by decide +kernel) (by decide +kernel)
set_option maxRecDepth 100000 in
theorem wf_X4_7 : Cond.fieldLink RX4 7 "OpalFieldModel" "state" "[I" ∈ WS := tb_in 835 (by decide +kernel) (by decide +kernel)
set_option maxRecDepth 100000 in
theorem wf_X4_13 : Cond.fieldLink RX4 13 "OpalFieldModel" "carats" "[I" ∈ WS := tb_in 836 (by decide +kernel) (by decide +kernel)
set_option maxRecDepth 100000 in
theorem wf_X4_16 : Cond.fieldLink RX4 16 "OpalFieldModel" "depth" "[I" ∈ WS := tb_in 837 (by decide +kernel) (by decide +kernel)
set_option maxRecDepth 100000 in
theorem wf_X4_19 : Cond.fieldLink RX4 19 "OpalFieldModel" "isTold" "[Z" ∈ WS := tb_in 838 (by decide +kernel) (by decide +kernel)
set_option maxRecDepth 100000 in
theorem wf_X4_23 : Cond.fieldLink RX4 23 "OpalFieldModel" "isPropped" "[Z" ∈ WS := tb_in 839 (by decide +kernel) (by decide +kernel)
set_option maxRecDepth 100000 in
theorem wf_X4_26 : Cond.fieldLink RX4 26 "OpalFieldModel" "trap" "[I" ∈ WS := tb_in 840 (by decide +kernel) (by decide +kernel)
set_option maxRecDepth 100000 in
theorem wf_X4_29 : Cond.fieldLink RX4 29 "OpalFieldModel" "falls" "[Z" ∈ WS := tb_in 841 (by decide +kernel) (by decide +kernel)
set_option maxRecDepth 100000 in
theorem wf_X4_32 : Cond.fieldLink RX4 32 "OpalFieldModel" "owner" "[I" ∈ WS := tb_in 843 (by decide +kernel) (by decide +kernel)
set_option maxRecDepth 100000 in
theorem wf_X4_35 : Cond.fieldLink RX4 35 "OpalFieldModel" "cell" "[I" ∈ WS := tb_in 844 (by decide +kernel) (by decide +kernel)
set_option maxRecDepth 100000 in
theorem wf_X4_38 : Cond.fieldLink RX4 38 "OpalFieldModel" "rows" "[I" ∈ WS := tb_in 845 (by decide +kernel) (by decide +kernel)
set_option maxRecDepth 100000 in
theorem wf_X4_41 : Cond.fieldLink RX4 41 "OpalFieldModel" "columns" "[I" ∈ WS := tb_in 846 (by decide +kernel) (by decide +kernel)
set_option maxRecDepth 100000 in
theorem wf_X4_44 : Cond.fieldLink RX4 44 "OpalFieldModel" "pegged" "[I" ∈ WS := tb_in 847 (by decide +kernel) (by decide +kernel)
set_option maxRecDepth 100000 in
theorem wf_X4_47 : Cond.fieldLink RX4 47 "OpalFieldModel" "worked" "[I" ∈ WS := tb_in 848 (by decide +kernel) (by decide +kernel)
set_option maxRecDepth 100000 in
theorem wf_X4_50 : Cond.fieldLink RX4 50 "OpalFieldModel" "shafts" "[I" ∈ WS := tb_in 849 (by decide +kernel) (by decide +kernel)
set_option maxRecDepth 100000 in
theorem wf_X4_53 : Cond.fieldLink RX4 53 "OpalFieldModel" "twelfths" "[I" ∈ WS := tb_in 850 (by decide +kernel) (by decide +kernel)
set_option maxRecDepth 100000 in
theorem wf_X4_56 : Cond.fieldLink RX4 56 "OpalFieldModel" "hours" "[I" ∈ WS := tb_in 851 (by decide +kernel) (by decide +kernel)
set_option maxRecDepth 100000 in
theorem wf_X4_59 : Cond.fieldLink RX4 59 "OpalFieldModel" "barredTo" "[I" ∈ WS := tb_in 852 (by decide +kernel) (by decide +kernel)
set_option maxRecDepth 100000 in
theorem wf_X4_62 : Cond.fieldLink RX4 62 "OpalFieldModel" "money" "[I" ∈ WS := tb_in 853 (by decide +kernel) (by decide +kernel)
set_option maxRecDepth 100000 in
theorem wf_X4_65 : Cond.fieldLink RX4 65 "OpalFieldModel" "caught" "[I" ∈ WS := tb_in 854 (by decide +kernel) (by decide +kernel)
set_option maxRecDepth 100000 in
theorem wf_X4_68 : Cond.fieldLink RX4 68 "OpalFieldModel" "got" "[I" ∈ WS := tb_in 855 (by decide +kernel) (by decide +kernel)
set_option maxRecDepth 100000 in
theorem wf_X4_71 : Cond.fieldLink RX4 71 "OpalFieldModel" "weighs" "[I" ∈ WS := tb_in 857 (by decide +kernel) (by decide +kernel)
set_option maxRecDepth 100000 in
theorem wf_X4_74 : Cond.fieldLink RX4 74 "OpalFieldModel" "deep" "[I" ∈ WS := tb_in 858 (by decide +kernel) (by decide +kernel)
set_option maxRecDepth 100000 in
theorem wf_X4_77 : Cond.fieldLink RX4 77 "OpalFieldModel" "rubbed" "[I" ∈ WS := tb_in 859 (by decide +kernel) (by decide +kernel)
set_option maxRecDepth 100000 in
theorem wf_X4_80 : Cond.fieldLink RX4 80 "OpalFieldModel" "has" "[I" ∈ WS := tb_in 860 (by decide +kernel) (by decide +kernel)
set_option maxRecDepth 100000 in
theorem wf_X4_83 : Cond.fieldLink RX4 83 "OpalFieldModel" "from" "[I" ∈ WS := tb_in 861 (by decide +kernel) (by decide +kernel)
set_option maxRecDepth 100000 in
theorem wf_X4_86 : Cond.fieldLink RX4 86 "OpalFieldModel" "where" "[I" ∈ WS := tb_in 862 (by decide +kernel) (by decide +kernel)
set_option maxRecDepth 100000 in
theorem wf_X4_89 : Cond.fieldLink RX4 89 "OpalFieldModel" "soldTo" "[I" ∈ WS := tb_in 863 (by decide +kernel) (by decide +kernel)
set_option maxRecDepth 100000 in
theorem wf_X4_92 : Cond.fieldLink RX4 92 "OpalFieldModel" "bids" "[I" ∈ WS := tb_in 864 (by decide +kernel) (by decide +kernel)
set_option maxRecDepth 100000 in
theorem wf_X4_95 : Cond.fieldLink RX4 95 "OpalFieldModel" "price" "[I" ∈ WS := tb_in 865 (by decide +kernel) (by decide +kernel)
set_option maxRecDepth 100000 in
theorem wf_X4_98 : Cond.fieldLink RX4 98 "OpalFieldModel" "turn" "[I" ∈ WS := tb_in 866 (by decide +kernel) (by decide +kernel)
set_option maxRecDepth 100000 in
theorem wf_X4_101 : Cond.fieldLink RX4 101 "OpalFieldModel" "purse" "[I" ∈ WS := tb_in 867 (by decide +kernel) (by decide +kernel)
set_option maxRecDepth 100000 in
theorem wf_X4_104 : Cond.fieldLink RX4 104 "OpalFieldModel" "thrown" "I" ∈ WS := tb_in 833 (by decide +kernel) (by decide +kernel)
set_option maxRecDepth 100000 in
theorem wm_X4_108 : Cond.methodLink RX4 108 yX4_in ∈ WS := tb_in 953 (by decide +kernel) (by decide +kernel)
set_option maxRecDepth 100000 in
theorem wf_X4_112 : Cond.fieldLink RX4 112 "OpalFieldModel" "claims" "I" ∈ WS := tb_in 842 (by decide +kernel) (by decide +kernel)
set_option maxRecDepth 100000 in
theorem wf_X4_115 : Cond.fieldLink RX4 115 "OpalFieldModel" "stones" "I" ∈ WS := tb_in 856 (by decide +kernel) (by decide +kernel)
set_option maxRecDepth 100000 in
theorem wf_X4_118 : Cond.fieldLink RX4 118 "OpalFieldModel" "now" "I" ∈ WS := tb_in 834 (by decide +kernel) (by decide +kernel)
set_option maxRecDepth 100000 in
theorem wm_X4_121 : Cond.methodLink RX4 121 yX4_isCell ∈ WS := tb_in 956 (by decide +kernel) (by decide +kernel)
set_option maxRecDepth 100000 in
theorem wf_X4_125 : Cond.fieldLink RX4 125 "OpalFieldModel" "told" "I" ∈ WS := tb_in 868 (by decide +kernel) (by decide +kernel)
set_option maxRecDepth 100000 in
theorem wm_X4_128 : Cond.methodLink RX4 128 yX4_isPerson ∈ WS := tb_in 967 (by decide +kernel) (by decide +kernel)
set_option maxRecDepth 100000 in
theorem wm_X4_131 : Cond.methodLink RX4 131 yX4_isBarred ∈ WS := tb_in 970 (by decide +kernel) (by decide +kernel)
set_option maxRecDepth 100000 in
theorem wm_X4_134 : Cond.methodLink RX4 134 yX4_ownersShare ∈ WS := tb_in 986 (by decide +kernel) (by decide +kernel)
set_option maxRecDepth 100000 in
theorem wm_X4_138 : Cond.methodLink RX4 138 yX4_upTo ∈ WS := tb_in 994 (by decide +kernel) (by decide +kernel)
set_option maxRecDepth 100000 in
theorem wm_X4_142 : Cond.methodLink RX4 142 yX4_isClaim ∈ WS := tb_in 978 (by decide +kernel) (by decide +kernel)
set_option maxRecDepth 100000 in
theorem wm_X4_145 : Cond.methodLink RX4 145 yX4_shareOf ∈ WS := tb_in 982 (by decide +kernel) (by decide +kernel)
set_option maxRecDepth 100000 in
theorem wm_X4_148 : Cond.methodLink RX4 148 yX4_hourOf ∈ WS := tb_in 990 (by decide +kernel) (by decide +kernel)
set_option maxRecDepth 100000 in
theorem wm_X4_151 : Cond.methodLink RX4 151 yX4_isLive ∈ WS := tb_in 1014 (by decide +kernel) (by decide +kernel)
set_option maxRecDepth 100000 in
theorem wm_X4_154 : Cond.methodLink RX4 154 yX4_covers ∈ WS := tb_in 1018 (by decide +kernel) (by decide +kernel)
set_option maxRecDepth 100000 in
theorem wm_X4_158 : Cond.methodLink RX4 158 yX4_beside ∈ WS := tb_in 1026 (by decide +kernel) (by decide +kernel)
set_option maxRecDepth 100000 in
theorem wm_X4_161 : Cond.methodLink RX4 161 yX4_isLoose ∈ WS := tb_in 1041 (by decide +kernel) (by decide +kernel)
set_option maxRecDepth 100000 in
theorem wm_X4_164 : Cond.methodLink RX4 164 yX4_run ∈ WS := tb_in 1037 (by decide +kernel) (by decide +kernel)
set_option maxRecDepth 100000 in
theorem wm_X4_167 : Cond.methodLink RX4 167 yX4_marks ∈ WS := tb_in 1045 (by decide +kernel) (by decide +kernel)
set_option maxRecDepth 100000 in
theorem wm_X4_171 : Cond.methodLink RX4 171 yX4_mayFall ∈ WS := tb_in 1033 (by decide +kernel) (by decide +kernel)
set_option maxRecDepth 100000 in
theorem wm_X4_175 : Cond.methodLink RX4 175 yX4_holder ∈ WS := tb_in 1010 (by decide +kernel) (by decide +kernel)
set_option maxRecDepth 100000 in
theorem wm_X4_178 : Cond.methodLink RX4 178 yX4_asks ∈ WS := tb_in 1006 (by decide +kernel) (by decide +kernel)
set_option maxRecDepth 100000 in
theorem wm_X4_182 : Cond.methodLink RX4 182 yX4_isBesideOpen ∈ WS := tb_in 1022 (by decide +kernel) (by decide +kernel)
set_option maxRecDepth 100000 in
theorem wm_X4_185 : Cond.methodLink RX4 185 yX4_opens ∈ WS := tb_in 1029 (by decide +kernel) (by decide +kernel)
set_option maxRecDepth 100000 in
theorem wm_X4_189 : Cond.methodLink RX4 189 yX4_trapsOf ∈ WS := tb_in 1061 (by decide +kernel) (by decide +kernel)
set_option maxRecDepth 100000 in
theorem wm_X4_192 : Cond.methodLink RX4 192 yX4_isNight ∈ WS := tb_in 1073 (by decide +kernel) (by decide +kernel)
set_option maxRecDepth 100000 in
theorem wm_X4_196 : Cond.methodLink RX4 196 yX4_canRat ∈ WS := tb_in 1069 (by decide +kernel) (by decide +kernel)
set_option maxRecDepth 100000 in
theorem wm_X4_199 : Cond.methodLink RX4 199 yX4_isIn ∈ WS := tb_in 1085 (by decide +kernel) (by decide +kernel)
set_option maxRecDepth 100000 in
theorem wm_X4_202 : Cond.methodLink RX4 202 yX4_parcel ∈ WS := tb_in 1081 (by decide +kernel) (by decide +kernel)
set_option maxRecDepth 100000 in
theorem wm_X4_205 : Cond.methodLink RX4 205 yX4_greatest ∈ WS := tb_in 1089 (by decide +kernel) (by decide +kernel)
set_option maxRecDepth 100000 in
theorem wm_X4_208 : Cond.methodLink RX4 208 yX4_next ∈ WS := tb_in 1093 (by decide +kernel) (by decide +kernel)
set_option maxRecDepth 100000 in
theorem wm_X4_211 : Cond.methodLink RX4 211 yX4_isStone ∈ WS := tb_in 1101 (by decide +kernel) (by decide +kernel)
set_option maxRecDepth 100000 in
theorem wm_X4_214 : Cond.methodLink RX4 214 yX4_isInParcel ∈ WS := tb_in 1105 (by decide +kernel) (by decide +kernel)
set_option maxRecDepth 100000 in
theorem wm_X4_217 : Cond.methodLink RX4 217 yX4_looks ∈ WS := tb_in 1109 (by decide +kernel) (by decide +kernel)
set_option maxRecDepth 100000 in
theorem wf_X4_220 : Cond.fieldLink RX4 220 "OpalFieldModel" "lost" "I" ∈ WS := tb_in 869 (by decide +kernel) (by decide +kernel)
set_option maxRecDepth 100000 in
theorem wm_X4_223 : Cond.methodLink RX4 223 yX4_isBuyer ∈ WS := tb_in 1117 (by decide +kernel) (by decide +kernel)
set_option maxRecDepth 100000 in
theorem wk_X4_226 : Cond.constant RX4 226 99999 ∈ WS := tb_in 1120 (by decide +kernel) (by decide +kernel)
set_option maxRecDepth 100000 in
theorem wm_X4_227 : Cond.methodLink RX4 227 yX4_highest ∈ WS := tb_in 1125 (by decide +kernel) (by decide +kernel)
set_option maxRecDepth 100000 in
theorem wm_X4_230 : Cond.methodLink RX4 230 yX4_held ∈ WS := tb_in 1145 (by decide +kernel) (by decide +kernel)
set_option maxRecDepth 100000 in
theorem wm_X4_233 : Cond.methodLink RX4 233 yX4_meet ∈ WS := tb_in 1157 (by decide +kernel) (by decide +kernel)
set_option maxRecDepth 100000 in
theorem wm_X4_236 : Cond.methodLink RX4 236 yX4_stonesOf ∈ WS := tb_in 1165 (by decide +kernel) (by decide +kernel)
set_option maxRecDepth 100000 in
theorem wm_X4_239 : Cond.methodLink RX4 239 yX4_value ∈ WS := tb_in 1173 (by decide +kernel) (by decide +kernel)
set_option maxRecDepth 100000 in
theorem wm_X4_242 : Cond.methodLink RX4 242 yX4_weighed ∈ WS := tb_in 1185 (by decide +kernel) (by decide +kernel)
set_option maxRecDepth 100000 in
theorem wm_X4_245 : Cond.methodLink RX4 245 yX4_isFall ∈ WS := tb_in 1201 (by decide +kernel) (by decide +kernel)
set_option maxRecDepth 100000 in
theorem wm_X4_248 : Cond.methodLink RX4 248 yX4_canPlan ∈ WS := tb_in 1197 (by decide +kernel) (by decide +kernel)
set_option maxRecDepth 100000 in
theorem wm_X4_251 : Cond.methodLink RX4 251 yX4_digsOne ∈ WS := tb_in 1193 (by decide +kernel) (by decide +kernel)
set_option maxRecDepth 100000 in
theorem wm_X4_254 : Cond.methodLink RX4 254 yX4_digsTwo ∈ WS := tb_in 1205 (by decide +kernel) (by decide +kernel)
set_option maxRecDepth 100000 in
theorem wm_X4_257 : Cond.methodLink RX4 257 yX4_digsThree ∈ WS := tb_in 1209 (by decide +kernel) (by decide +kernel)
set_option maxRecDepth 100000 in
theorem wm_X4_260 : Cond.methodLink RX4 260 yX4_plan ∈ WS := tb_in 1217 (by decide +kernel) (by decide +kernel)
set_option maxRecDepth 100000 in
theorem wm_X0_3 : Cond.methodLink RX0 3 objectInit ∈ WS := tb_in 289 (by decide +kernel) (by decide +kernel)
set_option maxRecDepth 100000 in
theorem wf_X0_9 : Cond.fieldLink RX0 9 "OpalField$Claim" "shares" "[I" ∈ WS := tb_in 302 (by decide +kernel) (by decide +kernel)
set_option maxRecDepth 100000 in
theorem wf_X0_15 : Cond.fieldLink RX0 15 "OpalField$Claim" "hoursTold" "[I" ∈ WS := tb_in 304 (by decide +kernel) (by decide +kernel)
set_option maxRecDepth 100000 in
theorem wf_X0_18 : Cond.fieldLink RX0 18 "OpalField$Claim" "owner" "I" ∈ WS := tb_in 291 (by decide +kernel) (by decide +kernel)
set_option maxRecDepth 100000 in
theorem wf_X0_22 : Cond.fieldLink RX0 22 "OpalField$Claim" "top" "I" ∈ WS := tb_in 293 (by decide +kernel) (by decide +kernel)
set_option maxRecDepth 100000 in
theorem wf_X0_25 : Cond.fieldLink RX0 25 "OpalField$Claim" "left" "I" ∈ WS := tb_in 294 (by decide +kernel) (by decide +kernel)
set_option maxRecDepth 100000 in
theorem wf_X0_28 : Cond.fieldLink RX0 28 "OpalField$Claim" "rows" "I" ∈ WS := tb_in 295 (by decide +kernel) (by decide +kernel)
set_option maxRecDepth 100000 in
theorem wf_X0_31 : Cond.fieldLink RX0 31 "OpalField$Claim" "columns" "I" ∈ WS := tb_in 296 (by decide +kernel) (by decide +kernel)
set_option maxRecDepth 100000 in
theorem wf_X0_34 : Cond.fieldLink RX0 34 "OpalField$Claim" "hour" "I" ∈ WS := tb_in 297 (by decide +kernel) (by decide +kernel)
set_option maxRecDepth 100000 in
theorem wf_X0_37 : Cond.fieldLink RX0 37 "OpalField$Claim" "lastWorked" "I" ∈ WS := tb_in 299 (by decide +kernel) (by decide +kernel)
set_option maxRecDepth 100000 in
theorem wm_X0_40 : Cond.methodLink RX0 40 yJ7_fill_53178 ∈ WS := tb_in 290 (by decide +kernel) (by decide +kernel)
set_option maxRecDepth 100000 in
theorem wm_X0_46 : Cond.methodLink RX0 46 yX0_hoursToLapse ∈ WS := tb_in 456 (by decide +kernel) (by decide +kernel)
set_option maxRecDepth 100000 in
theorem wm_X0_50 : Cond.methodLink RX0 50 Lib.Math.max.name ∈ WS := tb_in 460 (by decide +kernel) (by decide +kernel)
set_option maxRecDepth 100000 in
theorem wm_X0_56 : Cond.methodLink RX0 56 yX0_isMiddle ∈ WS := tb_in 417 (by decide +kernel) (by decide +kernel)
set_option maxRecDepth 100000 in
theorem wm_X0_64 : Cond.methodLink RX0 64 yX0_wanting ∈ WS := tb_in 636 (by decide +kernel) (by decide +kernel)
set_option maxRecDepth 100000 in
theorem wm_X0_68 : Cond.methodLink RX0 68 yX0_isOfPeople ∈ WS := tb_in 640 (by decide +kernel) (by decide +kernel)
set_option maxRecDepth 100000 in
theorem wm_X1_3 : Cond.methodLink RX1 3 objectInit ∈ WS := tb_in 34 (by decide +kernel) (by decide +kernel)
set_option maxRecDepth 100000 in
theorem wf_X1_9 : Cond.fieldLink RX1 9 "OpalField$Ground" "state" "[I" ∈ WS := tb_in 38 (by decide +kernel) (by decide +kernel)
set_option maxRecDepth 100000 in
theorem wf_X1_15 : Cond.fieldLink RX1 15 "OpalField$Ground" "told" "[I" ∈ WS := tb_in 40 (by decide +kernel) (by decide +kernel)
set_option maxRecDepth 100000 in
theorem wf_X1_18 : Cond.fieldLink RX1 18 "OpalField$Ground" "carats" "[I" ∈ WS := tb_in 42 (by decide +kernel) (by decide +kernel)
set_option maxRecDepth 100000 in
theorem wf_X1_21 : Cond.fieldLink RX1 21 "OpalField$Ground" "depth" "[I" ∈ WS := tb_in 44 (by decide +kernel) (by decide +kernel)
set_option maxRecDepth 100000 in
theorem wf_X1_24 : Cond.fieldLink RX1 24 "OpalField$Ground" "propped" "[Z" ∈ WS := tb_in 46 (by decide +kernel) (by decide +kernel)
set_option maxRecDepth 100000 in
theorem wf_X1_28 : Cond.fieldLink RX1 28 "OpalField$Ground" "trapper" "[I" ∈ WS := tb_in 48 (by decide +kernel) (by decide +kernel)
set_option maxRecDepth 100000 in
theorem wm_X1_31 : Cond.methodLink RX1 31 yJ7_fill_53178 ∈ WS := tb_in 35 (by decide +kernel) (by decide +kernel)
set_option maxRecDepth 100000 in
theorem wm_X1_41 : Cond.methodLink RX1 41 yX1_isOpen ∈ WS := tb_in 466 (by decide +kernel) (by decide +kernel)
set_option maxRecDepth 100000 in
theorem wm_X1_44 : Cond.methodLink RX1 44 yX1_canBeDug ∈ WS := tb_in 812 (by decide +kernel) (by decide +kernel)
set_option maxRecDepth 100000 in
theorem wm_X1_47 : Cond.methodLink RX1 47 yX1_looseInRow ∈ WS := tb_in 532 (by decide +kernel) (by decide +kernel)
set_option maxRecDepth 100000 in
theorem wm_X1_51 : Cond.methodLink RX1 51 yX1_looseInColumn ∈ WS := tb_in 544 (by decide +kernel) (by decide +kernel)
set_option maxRecDepth 100000 in
theorem wm_X1_54 : Cond.methodLink RX1 54 yX1_hasCarats ∈ WS := tb_in 698 (by decide +kernel) (by decide +kernel)
set_option maxRecDepth 100000 in
theorem wm_X1_61 : Cond.methodLink RX1 61 yX1_looseBeside ∈ WS := tb_in 536 (by decide +kernel) (by decide +kernel)
set_option maxRecDepth 100000 in
theorem wm_X1_65 : Cond.methodLink RX1 65 yX1_isLoose ∈ WS := tb_in 540 (by decide +kernel) (by decide +kernel)
set_option maxRecDepth 100000 in
theorem wm_X1_68 : Cond.methodLink RX1 68 yX1_bury ∈ WS := tb_in 548 (by decide +kernel) (by decide +kernel)
set_option maxRecDepth 100000 in
theorem wm_X2_3 : Cond.methodLink RX2 3 objectInit ∈ WS := tb_in 485 (by decide +kernel) (by decide +kernel)
set_option maxRecDepth 100000 in
theorem wf_X2_9 : Cond.fieldLink RX2 9 "OpalField$Stone" "buyer" "I" ∈ WS := tb_in 498 (by decide +kernel) (by decide +kernel)
set_option maxRecDepth 100000 in
theorem wf_X2_15 : Cond.fieldLink RX2 15 "OpalField$Stone" "prices" "[I" ∈ WS := tb_in 501 (by decide +kernel) (by decide +kernel)
set_option maxRecDepth 100000 in
theorem wf_X2_19 : Cond.fieldLink RX2 19 "OpalField$Stone" "turns" "[I" ∈ WS := tb_in 503 (by decide +kernel) (by decide +kernel)
set_option maxRecDepth 100000 in
theorem wf_X2_22 : Cond.fieldLink RX2 22 "OpalField$Stone" "cell" "I" ∈ WS := tb_in 486 (by decide +kernel) (by decide +kernel)
set_option maxRecDepth 100000 in
theorem wf_X2_25 : Cond.fieldLink RX2 25 "OpalField$Stone" "carats" "I" ∈ WS := tb_in 491 (by decide +kernel) (by decide +kernel)
set_option maxRecDepth 100000 in
theorem wf_X2_28 : Cond.fieldLink RX2 28 "OpalField$Stone" "depth" "I" ∈ WS := tb_in 488 (by decide +kernel) (by decide +kernel)
set_option maxRecDepth 100000 in
theorem wf_X2_31 : Cond.fieldLink RX2 31 "OpalField$Stone" "claim" "I" ∈ WS := tb_in 489 (by decide +kernel) (by decide +kernel)
set_option maxRecDepth 100000 in
theorem wf_X2_34 : Cond.fieldLink RX2 34 "OpalField$Stone" "person" "I" ∈ WS := tb_in 496 (by decide +kernel) (by decide +kernel)
set_option maxRecDepth 100000 in
theorem wm_X2_37 : Cond.methodLink RX2 37 yX2_place ∈ WS := tb_in 613 (by decide +kernel) (by decide +kernel)
set_option maxRecDepth 100000 in
theorem wf_X2_41 : Cond.fieldLink RX2 41 "OpalField$Stone" "rubs" "I" ∈ WS := tb_in 494 (by decide +kernel) (by decide +kernel)
set_option maxRecDepth 100000 in
theorem wm_X2_44 : Cond.methodLink RX2 44 yX2_lustre ∈ WS := tb_in 766 (by decide +kernel) (by decide +kernel)
set_option maxRecDepth 100000 in
theorem wm_X2_47 : Cond.methodLink RX2 47 yX2_isAhead ∈ WS := tb_in 682 (by decide +kernel) (by decide +kernel)
set_option maxRecDepth 100000 in
theorem wm_L_7 : Cond.methodLink RL 7 yX3_seam ∈ WS := tb_in 133 (by decide +kernel) (by decide +kernel)
set_option maxRecDepth 100000 in
theorem wm_L_19 : Cond.methodLink RL 19 yX3_pass ∈ WS := tb_in 250 (by decide +kernel) (by decide +kernel)
set_option maxRecDepth 100000 in
theorem wm_L_23 : Cond.methodLink RL 23 yX3_peg ∈ WS := tb_in 258 (by decide +kernel) (by decide +kernel)
set_option maxRecDepth 100000 in
theorem wm_L_27 : Cond.methodLink RL 27 yX3_witness ∈ WS := tb_in 384 (by decide +kernel) (by decide +kernel)
set_option maxRecDepth 100000 in
theorem wm_L_31 : Cond.methodLink RL 31 yX3_partner ∈ WS := tb_in 427 (by decide +kernel) (by decide +kernel)
set_option maxRecDepth 100000 in
theorem wm_L_34 : Cond.methodLink RL 34 yX3_dig ∈ WS := tb_in 435 (by decide +kernel) (by decide +kernel)
set_option maxRecDepth 100000 in
theorem wm_L_37 : Cond.methodLink RL 37 yX3_sink ∈ WS := tb_in 555 (by decide +kernel) (by decide +kernel)
set_option maxRecDepth 100000 in
theorem wm_L_40 : Cond.methodLink RL 40 yX3_prop ∈ WS := tb_in 565 (by decide +kernel) (by decide +kernel)
set_option maxRecDepth 100000 in
theorem wm_L_43 : Cond.methodLink RL 43 yX3_trap ∈ WS := tb_in 574 (by decide +kernel) (by decide +kernel)
set_option maxRecDepth 100000 in
theorem wm_L_46 : Cond.methodLink RL 46 yX3_rat ∈ WS := tb_in 588 (by decide +kernel) (by decide +kernel)
set_option maxRecDepth 100000 in
theorem wm_L_50 : Cond.methodLink RL 50 yX3_divide ∈ WS := tb_in 601 (by decide +kernel) (by decide +kernel)
set_option maxRecDepth 100000 in
theorem wm_L_53 : Cond.methodLink RL 53 yX3_rub ∈ WS := tb_in 644 (by decide +kernel) (by decide +kernel)
set_option maxRecDepth 100000 in
theorem wm_L_56 : Cond.methodLink RL 56 yX3_bid ∈ WS := tb_in 661 (by decide +kernel) (by decide +kernel)
set_option maxRecDepth 100000 in
theorem wm_L_59 : Cond.methodLink RL 59 yX3_sell ∈ WS := tb_in 674 (by decide +kernel) (by decide +kernel)
set_option maxRecDepth 100000 in
theorem wm_L_62 : Cond.methodLink RL 62 yX3_bore ∈ WS := tb_in 690 (by decide +kernel) (by decide +kernel)
set_option maxRecDepth 100000 in
theorem wm_L_65 : Cond.methodLink RL 65 yX3_ofCell ∈ WS := tb_in 705 (by decide +kernel) (by decide +kernel)
set_option maxRecDepth 100000 in
theorem wm_L_68 : Cond.methodLink RL 68 yX3_ofClaim ∈ WS := tb_in 713 (by decide +kernel) (by decide +kernel)
set_option maxRecDepth 100000 in
theorem wm_L_71 : Cond.methodLink RL 71 yX3_share ∈ WS := tb_in 726 (by decide +kernel) (by decide +kernel)
set_option maxRecDepth 100000 in
theorem wm_L_74 : Cond.methodLink RL 74 yX3_verdict ∈ WS := tb_in 733 (by decide +kernel) (by decide +kernel)
set_option maxRecDepth 100000 in
theorem wm_L_77 : Cond.methodLink RL 77 yX3_ofPerson ∈ WS := tb_in 746 (by decide +kernel) (by decide +kernel)
set_option maxRecDepth 100000 in
theorem wm_L_80 : Cond.methodLink RL 80 yX3_ofStone ∈ WS := tb_in 758 (by decide +kernel) (by decide +kernel)
set_option maxRecDepth 100000 in
theorem wm_L_83 : Cond.methodLink RL 83 yX3_purse ∈ WS := tb_in 771 (by decide +kernel) (by decide +kernel)
set_option maxRecDepth 100000 in
theorem wm_L_86 : Cond.methodLink RL 86 yX3_carats ∈ WS := tb_in 778 (by decide +kernel) (by decide +kernel)
set_option maxRecDepth 100000 in
theorem wm_L_89 : Cond.methodLink RL 89 yX3_plan ∈ WS := tb_in 797 (by decide +kernel) (by decide +kernel)
set_option maxRecDepth 100000 in
theorem wm_L_92 : Cond.methodLink RL 92 yX3_planAnew ∈ WS := tb_in 820 (by decide +kernel) (by decide +kernel)
set_option maxRecDepth 100000 in
theorem wc_L_8 : Cond.classLink RL 8 "OpalField" ∈ WS := tb_in 21 (by decide +kernel) (by decide +kernel)
set_option maxRecDepth 100000 in
theorem wm_L_95 : Cond.methodLink RL 95 yX3_init ∈ WS := tb_in 23 (by decide +kernel) (by decide +kernel)
set_option maxRecDepth 100000 in
theorem wc_L_96 : Cond.classLink RL 96 "OpalFieldModel" ∈ WS := tb_in 827 (by decide +kernel) (by decide +kernel)
set_option maxRecDepth 100000 in
theorem wm_L_98 : Cond.methodLink RL 98 yX4_init ∈ WS := tb_in 829 (by decide +kernel) (by decide +kernel)
set_option maxRecDepth 100000 in
theorem wm_L_99 : Cond.methodLink RL 99 yL_seam ∈ WS := tb_in 127 (by decide +kernel) (by decide +kernel)
set_option maxRecDepth 100000 in
theorem wm_L_104 : Cond.methodLink RL 104 yX4_seam ∈ WS := tb_in 949 (by decide +kernel) (by decide +kernel)
set_option maxRecDepth 100000 in
theorem wm_L_105 : Cond.methodLink RL 105 yX4_thrown ∈ WS := tb_in 945 (by decide +kernel) (by decide +kernel)
set_option maxRecDepth 100000 in
theorem wm_L_109 : Cond.methodLink RL 109 yL_pass ∈ WS := tb_in 247 (by decide +kernel) (by decide +kernel)
set_option maxRecDepth 100000 in
theorem wm_L_112 : Cond.methodLink RL 112 yX4_pass ∈ WS := tb_in 959 (by decide +kernel) (by decide +kernel)
set_option maxRecDepth 100000 in
theorem wm_L_113 : Cond.methodLink RL 113 yL_peg ∈ WS := tb_in 255 (by decide +kernel) (by decide +kernel)
set_option maxRecDepth 100000 in
theorem wm_L_116 : Cond.methodLink RL 116 yX4_peg ∈ WS := tb_in 963 (by decide +kernel) (by decide +kernel)
set_option maxRecDepth 100000 in
theorem wm_L_117 : Cond.methodLink RL 117 yL_witness ∈ WS := tb_in 381 (by decide +kernel) (by decide +kernel)
set_option maxRecDepth 100000 in
theorem wm_L_120 : Cond.methodLink RL 120 yX4_witness ∈ WS := tb_in 974 (by decide +kernel) (by decide +kernel)
set_option maxRecDepth 100000 in
theorem wm_L_121 : Cond.methodLink RL 121 yL_partner ∈ WS := tb_in 424 (by decide +kernel) (by decide +kernel)
set_option maxRecDepth 100000 in
theorem wm_L_123 : Cond.methodLink RL 123 yX4_partner ∈ WS := tb_in 998 (by decide +kernel) (by decide +kernel)
set_option maxRecDepth 100000 in
theorem wm_L_124 : Cond.methodLink RL 124 yL_dig ∈ WS := tb_in 432 (by decide +kernel) (by decide +kernel)
set_option maxRecDepth 100000 in
theorem wm_L_126 : Cond.methodLink RL 126 yX4_dig ∈ WS := tb_in 1002 (by decide +kernel) (by decide +kernel)
set_option maxRecDepth 100000 in
theorem wm_L_127 : Cond.methodLink RL 127 yL_sink ∈ WS := tb_in 552 (by decide +kernel) (by decide +kernel)
set_option maxRecDepth 100000 in
theorem wm_L_129 : Cond.methodLink RL 129 yX4_sink ∈ WS := tb_in 1049 (by decide +kernel) (by decide +kernel)
set_option maxRecDepth 100000 in
theorem wm_L_130 : Cond.methodLink RL 130 yL_prop ∈ WS := tb_in 562 (by decide +kernel) (by decide +kernel)
set_option maxRecDepth 100000 in
theorem wm_L_132 : Cond.methodLink RL 132 yX4_prop ∈ WS := tb_in 1053 (by decide +kernel) (by decide +kernel)
set_option maxRecDepth 100000 in
theorem wm_L_133 : Cond.methodLink RL 133 yL_trap ∈ WS := tb_in 571 (by decide +kernel) (by decide +kernel)
set_option maxRecDepth 100000 in
theorem wm_L_135 : Cond.methodLink RL 135 yX4_trap ∈ WS := tb_in 1057 (by decide +kernel) (by decide +kernel)
set_option maxRecDepth 100000 in
theorem wm_L_136 : Cond.methodLink RL 136 yL_rat ∈ WS := tb_in 585 (by decide +kernel) (by decide +kernel)
set_option maxRecDepth 100000 in
theorem wm_L_139 : Cond.methodLink RL 139 yX4_rat ∈ WS := tb_in 1065 (by decide +kernel) (by decide +kernel)
set_option maxRecDepth 100000 in
theorem wm_L_140 : Cond.methodLink RL 140 yL_divide ∈ WS := tb_in 598 (by decide +kernel) (by decide +kernel)
set_option maxRecDepth 100000 in
theorem wm_L_142 : Cond.methodLink RL 142 yX4_divide ∈ WS := tb_in 1077 (by decide +kernel) (by decide +kernel)
set_option maxRecDepth 100000 in
theorem wm_L_143 : Cond.methodLink RL 143 yL_rub ∈ WS := tb_in 641 (by decide +kernel) (by decide +kernel)
set_option maxRecDepth 100000 in
theorem wm_L_145 : Cond.methodLink RL 145 yX4_rub ∈ WS := tb_in 1097 (by decide +kernel) (by decide +kernel)
set_option maxRecDepth 100000 in
theorem wm_L_146 : Cond.methodLink RL 146 yL_bid ∈ WS := tb_in 658 (by decide +kernel) (by decide +kernel)
set_option maxRecDepth 100000 in
theorem wm_L_148 : Cond.methodLink RL 148 yX4_bid ∈ WS := tb_in 1113 (by decide +kernel) (by decide +kernel)
set_option maxRecDepth 100000 in
theorem wm_L_149 : Cond.methodLink RL 149 yL_sell ∈ WS := tb_in 671 (by decide +kernel) (by decide +kernel)
set_option maxRecDepth 100000 in
theorem wm_L_151 : Cond.methodLink RL 151 yX4_sell ∈ WS := tb_in 1121 (by decide +kernel) (by decide +kernel)
set_option maxRecDepth 100000 in
theorem wm_L_152 : Cond.methodLink RL 152 yX3_hour ∈ WS := tb_in 123 (by decide +kernel) (by decide +kernel)
set_option maxRecDepth 100000 in
theorem wm_L_155 : Cond.methodLink RL 155 yX4_hour ∈ WS := tb_in 1129 (by decide +kernel) (by decide +kernel)
set_option maxRecDepth 100000 in
theorem wm_L_156 : Cond.methodLink RL 156 yL_bore ∈ WS := tb_in 687 (by decide +kernel) (by decide +kernel)
set_option maxRecDepth 100000 in
theorem wm_L_158 : Cond.methodLink RL 158 yX4_bore ∈ WS := tb_in 1133 (by decide +kernel) (by decide +kernel)
set_option maxRecDepth 100000 in
theorem wm_L_159 : Cond.methodLink RL 159 yL_ofCell ∈ WS := tb_in 702 (by decide +kernel) (by decide +kernel)
set_option maxRecDepth 100000 in
theorem wm_L_161 : Cond.methodLink RL 161 yX4_ofCell ∈ WS := tb_in 1137 (by decide +kernel) (by decide +kernel)
set_option maxRecDepth 100000 in
theorem wm_L_162 : Cond.methodLink RL 162 yL_ofClaim ∈ WS := tb_in 710 (by decide +kernel) (by decide +kernel)
set_option maxRecDepth 100000 in
theorem wm_L_164 : Cond.methodLink RL 164 yX4_ofClaim ∈ WS := tb_in 1141 (by decide +kernel) (by decide +kernel)
set_option maxRecDepth 100000 in
theorem wm_L_165 : Cond.methodLink RL 165 yL_share ∈ WS := tb_in 723 (by decide +kernel) (by decide +kernel)
set_option maxRecDepth 100000 in
theorem wm_L_167 : Cond.methodLink RL 167 yX4_share ∈ WS := tb_in 1149 (by decide +kernel) (by decide +kernel)
set_option maxRecDepth 100000 in
theorem wm_L_168 : Cond.methodLink RL 168 yL_verdict ∈ WS := tb_in 730 (by decide +kernel) (by decide +kernel)
set_option maxRecDepth 100000 in
theorem wm_L_170 : Cond.methodLink RL 170 yX4_verdict ∈ WS := tb_in 1153 (by decide +kernel) (by decide +kernel)
set_option maxRecDepth 100000 in
theorem wm_L_171 : Cond.methodLink RL 171 yL_ofPerson ∈ WS := tb_in 743 (by decide +kernel) (by decide +kernel)
set_option maxRecDepth 100000 in
theorem wm_L_173 : Cond.methodLink RL 173 yX4_ofPerson ∈ WS := tb_in 1161 (by decide +kernel) (by decide +kernel)
set_option maxRecDepth 100000 in
theorem wm_L_174 : Cond.methodLink RL 174 yL_ofStone ∈ WS := tb_in 755 (by decide +kernel) (by decide +kernel)
set_option maxRecDepth 100000 in
theorem wm_L_176 : Cond.methodLink RL 176 yX4_ofStone ∈ WS := tb_in 1169 (by decide +kernel) (by decide +kernel)
set_option maxRecDepth 100000 in
theorem wm_L_177 : Cond.methodLink RL 177 yL_purse ∈ WS := tb_in 768 (by decide +kernel) (by decide +kernel)
set_option maxRecDepth 100000 in
theorem wm_L_179 : Cond.methodLink RL 179 yX4_purse ∈ WS := tb_in 1177 (by decide +kernel) (by decide +kernel)
set_option maxRecDepth 100000 in
theorem wm_L_180 : Cond.methodLink RL 180 yL_carats ∈ WS := tb_in 775 (by decide +kernel) (by decide +kernel)
set_option maxRecDepth 100000 in
theorem wm_L_182 : Cond.methodLink RL 182 yX4_carats ∈ WS := tb_in 1181 (by decide +kernel) (by decide +kernel)
set_option maxRecDepth 100000 in
theorem wm_L_183 : Cond.methodLink RL 183 yL_plan ∈ WS := tb_in 794 (by decide +kernel) (by decide +kernel)
set_option maxRecDepth 100000 in
theorem wm_L_185 : Cond.methodLink RL 185 yX4_plan ∈ WS := tb_in 1189 (by decide +kernel) (by decide +kernel)
set_option maxRecDepth 100000 in
theorem wm_L_186 : Cond.methodLink RL 186 yL_planAnew ∈ WS := tb_in 817 (by decide +kernel) (by decide +kernel)
set_option maxRecDepth 100000 in
theorem wm_L_188 : Cond.methodLink RL 188 yX4_planAnew ∈ WS := tb_in 1213 (by decide +kernel) (by decide +kernel)
set_option maxRecDepth 100000 in
theorem wo_X0_init : Cond.code yX0_init cX0_init 6 none ∈ WS := tb_in 288 (by decide +kernel) (by decide +kernel)
set_option maxRecDepth 100000 in
theorem wi_X0_init : Cond.instanceMethod yX0_init ∈ WS := tb_in 287 (by decide +kernel) (by decide +kernel)
set_option maxRecDepth 100000 in
theorem wo_X0_isOfPeople : Cond.code yX0_isOfPeople cX0_isOfPeople 2 (some .boolean) ∈ WS := tb_in 410 (by decide +kernel) (by decide +kernel)
set_option maxRecDepth 100000 in
theorem wi_X0_isOfPeople : Cond.instanceMethod yX0_isOfPeople ∈ WS := tb_in 408 (by decide +kernel) (by decide +kernel)
set_option maxRecDepth 100000 in
theorem wsl_X0_isOfPeople : Cond.selects RX0 yX0_isOfPeople yX0_isOfPeople ∈ WS := tb_in 409 (by decide +kernel) (by decide +kernel)
set_option maxRecDepth 100000 in
theorem wo_X0_isLive : Cond.code yX0_isLive cX0_isLive 2 (some .boolean) ∈ WS := tb_in 455 (by decide +kernel) (by decide +kernel)
set_option maxRecDepth 100000 in
theorem wi_X0_isLive : Cond.instanceMethod yX0_isLive ∈ WS := tb_in 453 (by decide +kernel) (by decide +kernel)
set_option maxRecDepth 100000 in
theorem wsl_X0_isLive : Cond.selects RX0 yX0_isLive yX0_isLive ∈ WS := tb_in 454 (by decide +kernel) (by decide +kernel)
set_option maxRecDepth 100000 in
theorem wo_X0_hoursToLapse : Cond.code yX0_hoursToLapse cX0_hoursToLapse 2 (some .int) ∈ WS := tb_in 459 (by decide +kernel) (by decide +kernel)
set_option maxRecDepth 100000 in
theorem wi_X0_hoursToLapse : Cond.instanceMethod yX0_hoursToLapse ∈ WS := tb_in 457 (by decide +kernel) (by decide +kernel)
set_option maxRecDepth 100000 in
theorem wsl_X0_hoursToLapse : Cond.selects RX0 yX0_hoursToLapse yX0_hoursToLapse ∈ WS := tb_in 458 (by decide +kernel) (by decide +kernel)
set_option maxRecDepth 100000 in
theorem wo_X0_covers : Cond.code yX0_covers cX0_covers 4 (some .boolean) ∈ WS := tb_in 451 (by decide +kernel) (by decide +kernel)
set_option maxRecDepth 100000 in
theorem wi_X0_covers : Cond.instanceMethod yX0_covers ∈ WS := tb_in 449 (by decide +kernel) (by decide +kernel)
set_option maxRecDepth 100000 in
theorem wsl_X0_covers : Cond.selects RX0 yX0_covers yX0_covers ∈ WS := tb_in 450 (by decide +kernel) (by decide +kernel)
set_option maxRecDepth 100000 in
theorem wo_X0_overlaps : Cond.code yX0_overlaps cX0_overlaps 2 (some .boolean) ∈ WS := tb_in 741 (by decide +kernel) (by decide +kernel)
set_option maxRecDepth 100000 in
theorem wi_X0_overlaps : Cond.instanceMethod yX0_overlaps ∈ WS := tb_in 739 (by decide +kernel) (by decide +kernel)
set_option maxRecDepth 100000 in
theorem wsl_X0_overlaps : Cond.selects RX0 yX0_overlaps yX0_overlaps ∈ WS := tb_in 740 (by decide +kernel) (by decide +kernel)
set_option maxRecDepth 100000 in
theorem wo_X0_middleHourTold : Cond.code yX0_middleHourTold cX0_middleHourTold 3 (some .int) ∈ WS := tb_in 416 (by decide +kernel) (by decide +kernel)
set_option maxRecDepth 100000 in
theorem wi_X0_middleHourTold : Cond.instanceMethod yX0_middleHourTold ∈ WS := tb_in 414 (by decide +kernel) (by decide +kernel)
set_option maxRecDepth 100000 in
theorem wsl_X0_middleHourTold : Cond.selects RX0 yX0_middleHourTold yX0_middleHourTold ∈ WS := tb_in 415 (by decide +kernel) (by decide +kernel)
set_option maxRecDepth 100000 in
theorem wo_X0_isMiddle : Cond.code yX0_isMiddle cX0_isMiddle 7 (some .boolean) ∈ WS := tb_in 420 (by decide +kernel) (by decide +kernel)
set_option maxRecDepth 100000 in
theorem wi_X0_isMiddle : Cond.instanceMethod yX0_isMiddle ∈ WS := tb_in 418 (by decide +kernel) (by decide +kernel)
set_option maxRecDepth 100000 in
theorem wsl_X0_isMiddle : Cond.selects RX0 yX0_isMiddle yX0_isMiddle ∈ WS := tb_in 419 (by decide +kernel) (by decide +kernel)
set_option maxRecDepth 100000 in
theorem wo_X0_mostWanting : Cond.code yX0_mostWanting cX0_mostWanting 7 (some .int) ∈ WS := tb_in 635 (by decide +kernel) (by decide +kernel)
set_option maxRecDepth 100000 in
theorem wi_X0_mostWanting : Cond.instanceMethod yX0_mostWanting ∈ WS := tb_in 633 (by decide +kernel) (by decide +kernel)
set_option maxRecDepth 100000 in
theorem wsl_X0_mostWanting : Cond.selects RX0 yX0_mostWanting yX0_mostWanting ∈ WS := tb_in 634 (by decide +kernel) (by decide +kernel)
set_option maxRecDepth 100000 in
theorem wo_X0_wanting : Cond.code yX0_wanting cX0_wanting 4 (some .int) ∈ WS := tb_in 639 (by decide +kernel) (by decide +kernel)
set_option maxRecDepth 100000 in
theorem wi_X0_wanting : Cond.instanceMethod yX0_wanting ∈ WS := tb_in 637 (by decide +kernel) (by decide +kernel)
set_option maxRecDepth 100000 in
theorem wsl_X0_wanting : Cond.selects RX0 yX0_wanting yX0_wanting ∈ WS := tb_in 638 (by decide +kernel) (by decide +kernel)
set_option maxRecDepth 100000 in
theorem wo_X1_init : Cond.code yX1_init cX1_init 1 none ∈ WS := tb_in 33 (by decide +kernel) (by decide +kernel)
set_option maxRecDepth 100000 in
theorem wi_X1_init : Cond.instanceMethod yX1_init ∈ WS := tb_in 32 (by decide +kernel) (by decide +kernel)
set_option maxRecDepth 100000 in
theorem wo_X1_isOpen : Cond.code yX1_isOpen cX1_isOpen 2 (some .boolean) ∈ WS := tb_in 469 (by decide +kernel) (by decide +kernel)
set_option maxRecDepth 100000 in
theorem wi_X1_isOpen : Cond.instanceMethod yX1_isOpen ∈ WS := tb_in 467 (by decide +kernel) (by decide +kernel)
set_option maxRecDepth 100000 in
theorem wsl_X1_isOpen : Cond.selects RX1 yX1_isOpen yX1_isOpen ∈ WS := tb_in 468 (by decide +kernel) (by decide +kernel)
set_option maxRecDepth 100000 in
theorem wo_X1_isLoose : Cond.code yX1_isLoose cX1_isLoose 2 (some .boolean) ∈ WS := tb_in 543 (by decide +kernel) (by decide +kernel)
set_option maxRecDepth 100000 in
theorem wi_X1_isLoose : Cond.instanceMethod yX1_isLoose ∈ WS := tb_in 541 (by decide +kernel) (by decide +kernel)
set_option maxRecDepth 100000 in
theorem wsl_X1_isLoose : Cond.selects RX1 yX1_isLoose yX1_isLoose ∈ WS := tb_in 542 (by decide +kernel) (by decide +kernel)
set_option maxRecDepth 100000 in
theorem wo_X1_canBeDug : Cond.code yX1_canBeDug cX1_canBeDug 3 (some .boolean) ∈ WS := tb_in 465 (by decide +kernel) (by decide +kernel)
set_option maxRecDepth 100000 in
theorem wi_X1_canBeDug : Cond.instanceMethod yX1_canBeDug ∈ WS := tb_in 463 (by decide +kernel) (by decide +kernel)
set_option maxRecDepth 100000 in
theorem wsl_X1_canBeDug : Cond.selects RX1 yX1_canBeDug yX1_canBeDug ∈ WS := tb_in 464 (by decide +kernel) (by decide +kernel)
set_option maxRecDepth 100000 in
theorem wo_X1_canBeDugSafely : Cond.code yX1_canBeDugSafely cX1_canBeDugSafely 2 (some .boolean) ∈ WS := tb_in 811 (by decide +kernel) (by decide +kernel)
set_option maxRecDepth 100000 in
theorem wi_X1_canBeDugSafely : Cond.instanceMethod yX1_canBeDugSafely ∈ WS := tb_in 809 (by decide +kernel) (by decide +kernel)
set_option maxRecDepth 100000 in
theorem wsl_X1_canBeDugSafely : Cond.selects RX1 yX1_canBeDugSafely yX1_canBeDugSafely ∈ WS := tb_in 810 (by decide +kernel) (by decide +kernel)
set_option maxRecDepth 100000 in
theorem wo_X1_openForNow : Cond.code yX1_openForNow cX1_openForNow 3 (some .int) ∈ WS := tb_in 816 (by decide +kernel) (by decide +kernel)
set_option maxRecDepth 100000 in
theorem wi_X1_openForNow : Cond.instanceMethod yX1_openForNow ∈ WS := tb_in 814 (by decide +kernel) (by decide +kernel)
set_option maxRecDepth 100000 in
theorem wsl_X1_openForNow : Cond.selects RX1 yX1_openForNow yX1_openForNow ∈ WS := tb_in 815 (by decide +kernel) (by decide +kernel)
set_option maxRecDepth 100000 in
theorem wo_X1_caratsAround : Cond.code yX1_caratsAround cX1_caratsAround 3 (some .int) ∈ WS := tb_in 697 (by decide +kernel) (by decide +kernel)
set_option maxRecDepth 100000 in
theorem wi_X1_caratsAround : Cond.instanceMethod yX1_caratsAround ∈ WS := tb_in 695 (by decide +kernel) (by decide +kernel)
set_option maxRecDepth 100000 in
theorem wsl_X1_caratsAround : Cond.selects RX1 yX1_caratsAround yX1_caratsAround ∈ WS := tb_in 696 (by decide +kernel) (by decide +kernel)
set_option maxRecDepth 100000 in
theorem wo_X1_hasCarats : Cond.code yX1_hasCarats cX1_hasCarats 2 (some .boolean) ∈ WS := tb_in 701 (by decide +kernel) (by decide +kernel)
set_option maxRecDepth 100000 in
theorem wi_X1_hasCarats : Cond.instanceMethod yX1_hasCarats ∈ WS := tb_in 699 (by decide +kernel) (by decide +kernel)
set_option maxRecDepth 100000 in
theorem wsl_X1_hasCarats : Cond.selects RX1 yX1_hasCarats yX1_hasCarats ∈ WS := tb_in 700 (by decide +kernel) (by decide +kernel)
set_option maxRecDepth 100000 in
theorem wo_X1_trapsOf : Cond.code yX1_trapsOf cX1_trapsOf 4 (some .int) ∈ WS := tb_in 582 (by decide +kernel) (by decide +kernel)
set_option maxRecDepth 100000 in
theorem wi_X1_trapsOf : Cond.instanceMethod yX1_trapsOf ∈ WS := tb_in 580 (by decide +kernel) (by decide +kernel)
set_option maxRecDepth 100000 in
theorem wsl_X1_trapsOf : Cond.selects RX1 yX1_trapsOf yX1_trapsOf ∈ WS := tb_in 581 (by decide +kernel) (by decide +kernel)
set_option maxRecDepth 100000 in
theorem wo_X1_looseInRow : Cond.code yX1_looseInRow cX1_looseInRow 2 (some .int) ∈ WS := tb_in 535 (by decide +kernel) (by decide +kernel)
set_option maxRecDepth 100000 in
theorem wi_X1_looseInRow : Cond.instanceMethod yX1_looseInRow ∈ WS := tb_in 533 (by decide +kernel) (by decide +kernel)
set_option maxRecDepth 100000 in
theorem wsl_X1_looseInRow : Cond.selects RX1 yX1_looseInRow yX1_looseInRow ∈ WS := tb_in 534 (by decide +kernel) (by decide +kernel)
set_option maxRecDepth 100000 in
theorem wo_X1_looseInColumn : Cond.code yX1_looseInColumn cX1_looseInColumn 2 (some .int) ∈ WS := tb_in 547 (by decide +kernel) (by decide +kernel)
set_option maxRecDepth 100000 in
theorem wi_X1_looseInColumn : Cond.instanceMethod yX1_looseInColumn ∈ WS := tb_in 545 (by decide +kernel) (by decide +kernel)
set_option maxRecDepth 100000 in
theorem wsl_X1_looseInColumn : Cond.selects RX1 yX1_looseInColumn yX1_looseInColumn ∈ WS := tb_in 546 (by decide +kernel) (by decide +kernel)
set_option maxRecDepth 100000 in
theorem wo_X1_looseBeside : Cond.code yX1_looseBeside cX1_looseBeside 5 (some .int) ∈ WS := tb_in 539 (by decide +kernel) (by decide +kernel)
set_option maxRecDepth 100000 in
theorem wi_X1_looseBeside : Cond.instanceMethod yX1_looseBeside ∈ WS := tb_in 537 (by decide +kernel) (by decide +kernel)
set_option maxRecDepth 100000 in
theorem wsl_X1_looseBeside : Cond.selects RX1 yX1_looseBeside yX1_looseBeside ∈ WS := tb_in 538 (by decide +kernel) (by decide +kernel)
set_option maxRecDepth 100000 in
theorem wo_X1_fall : Cond.code yX1_fall cX1_fall 6 none ∈ WS := tb_in 531 (by decide +kernel) (by decide +kernel)
set_option maxRecDepth 100000 in
theorem wi_X1_fall : Cond.instanceMethod yX1_fall ∈ WS := tb_in 529 (by decide +kernel) (by decide +kernel)
set_option maxRecDepth 100000 in
theorem wsl_X1_fall : Cond.selects RX1 yX1_fall yX1_fall ∈ WS := tb_in 530 (by decide +kernel) (by decide +kernel)
set_option maxRecDepth 100000 in
theorem wo_X1_bury : Cond.code yX1_bury cX1_bury 6 none ∈ WS := tb_in 551 (by decide +kernel) (by decide +kernel)
set_option maxRecDepth 100000 in
theorem wi_X1_bury : Cond.instanceMethod yX1_bury ∈ WS := tb_in 549 (by decide +kernel) (by decide +kernel)
set_option maxRecDepth 100000 in
theorem wsl_X1_bury : Cond.selects RX1 yX1_bury yX1_bury ∈ WS := tb_in 550 (by decide +kernel) (by decide +kernel)
set_option maxRecDepth 100000 in
theorem wo_X2_init : Cond.code yX2_init cX2_init 6 none ∈ WS := tb_in 484 (by decide +kernel) (by decide +kernel)
set_option maxRecDepth 100000 in
theorem wi_X2_init : Cond.instanceMethod yX2_init ∈ WS := tb_in 483 (by decide +kernel) (by decide +kernel)
set_option maxRecDepth 100000 in
theorem wo_X2_place : Cond.code yX2_place cX2_place 1 (some .int) ∈ WS := tb_in 616 (by decide +kernel) (by decide +kernel)
set_option maxRecDepth 100000 in
theorem wi_X2_place : Cond.instanceMethod yX2_place ∈ WS := tb_in 614 (by decide +kernel) (by decide +kernel)
set_option maxRecDepth 100000 in
theorem wsl_X2_place : Cond.selects RX2 yX2_place yX2_place ∈ WS := tb_in 615 (by decide +kernel) (by decide +kernel)
set_option maxRecDepth 100000 in
theorem wo_X2_isInParcelOf : Cond.code yX2_isInParcelOf cX2_isInParcelOf 2 (some .boolean) ∈ WS := tb_in 612 (by decide +kernel) (by decide +kernel)
set_option maxRecDepth 100000 in
theorem wi_X2_isInParcelOf : Cond.instanceMethod yX2_isInParcelOf ∈ WS := tb_in 610 (by decide +kernel) (by decide +kernel)
set_option maxRecDepth 100000 in
theorem wsl_X2_isInParcelOf : Cond.selects RX2 yX2_isInParcelOf yX2_isInParcelOf ∈ WS := tb_in 611 (by decide +kernel) (by decide +kernel)
set_option maxRecDepth 100000 in
theorem wo_X2_lustre : Cond.code yX2_lustre cX2_lustre 1 (some .int) ∈ WS := tb_in 656 (by decide +kernel) (by decide +kernel)
set_option maxRecDepth 100000 in
theorem wi_X2_lustre : Cond.instanceMethod yX2_lustre ∈ WS := tb_in 654 (by decide +kernel) (by decide +kernel)
set_option maxRecDepth 100000 in
theorem wsl_X2_lustre : Cond.selects RX2 yX2_lustre yX2_lustre ∈ WS := tb_in 655 (by decide +kernel) (by decide +kernel)
set_option maxRecDepth 100000 in
theorem wo_X2_value : Cond.code yX2_value cX2_value 1 (some .int) ∈ WS := tb_in 765 (by decide +kernel) (by decide +kernel)
set_option maxRecDepth 100000 in
theorem wi_X2_value : Cond.instanceMethod yX2_value ∈ WS := tb_in 763 (by decide +kernel) (by decide +kernel)
set_option maxRecDepth 100000 in
theorem wsl_X2_value : Cond.selects RX2 yX2_value yX2_value ∈ WS := tb_in 764 (by decide +kernel) (by decide +kernel)
set_option maxRecDepth 100000 in
theorem wo_X2_bestBidder : Cond.code yX2_bestBidder cX2_bestBidder 4 (some .int) ∈ WS := tb_in 681 (by decide +kernel) (by decide +kernel)
set_option maxRecDepth 100000 in
theorem wi_X2_bestBidder : Cond.instanceMethod yX2_bestBidder ∈ WS := tb_in 679 (by decide +kernel) (by decide +kernel)
set_option maxRecDepth 100000 in
theorem wsl_X2_bestBidder : Cond.selects RX2 yX2_bestBidder yX2_bestBidder ∈ WS := tb_in 680 (by decide +kernel) (by decide +kernel)
set_option maxRecDepth 100000 in
theorem wo_X2_isAhead : Cond.code yX2_isAhead cX2_isAhead 3 (some .boolean) ∈ WS := tb_in 685 (by decide +kernel) (by decide +kernel)
set_option maxRecDepth 100000 in
theorem wi_X2_isAhead : Cond.instanceMethod yX2_isAhead ∈ WS := tb_in 683 (by decide +kernel) (by decide +kernel)
set_option maxRecDepth 100000 in
theorem wsl_X2_isAhead : Cond.selects RX2 yX2_isAhead yX2_isAhead ∈ WS := tb_in 684 (by decide +kernel) (by decide +kernel)
set_option maxRecDepth 100000 in
theorem wo_X3_init : Cond.code yX3_init cX3_init 1 none ∈ WS := tb_in 25 (by decide +kernel) (by decide +kernel)
set_option maxRecDepth 100000 in
theorem wi_X3_init : Cond.instanceMethod yX3_init ∈ WS := tb_in 24 (by decide +kernel) (by decide +kernel)
set_option maxRecDepth 100000 in
theorem wo_X3_seam : Cond.code yX3_seam cX3_seam 4 none ∈ WS := tb_in 136 (by decide +kernel) (by decide +kernel)
set_option maxRecDepth 100000 in
theorem wi_X3_seam : Cond.instanceMethod yX3_seam ∈ WS := tb_in 134 (by decide +kernel) (by decide +kernel)
set_option maxRecDepth 100000 in
theorem wsl_X3_seam : Cond.selects RX3 yX3_seam yX3_seam ∈ WS := tb_in 135 (by decide +kernel) (by decide +kernel)
set_option maxRecDepth 100000 in
theorem wo_X3_pass : Cond.code yX3_pass cX3_pass 2 (some .int) ∈ WS := tb_in 253 (by decide +kernel) (by decide +kernel)
set_option maxRecDepth 100000 in
theorem wi_X3_pass : Cond.instanceMethod yX3_pass ∈ WS := tb_in 251 (by decide +kernel) (by decide +kernel)
set_option maxRecDepth 100000 in
theorem wsl_X3_pass : Cond.selects RX3 yX3_pass yX3_pass ∈ WS := tb_in 252 (by decide +kernel) (by decide +kernel)
set_option maxRecDepth 100000 in
theorem wo_X3_peg : Cond.code yX3_peg cX3_peg 5 (some .int) ∈ WS := tb_in 261 (by decide +kernel) (by decide +kernel)
set_option maxRecDepth 100000 in
theorem wi_X3_peg : Cond.instanceMethod yX3_peg ∈ WS := tb_in 259 (by decide +kernel) (by decide +kernel)
set_option maxRecDepth 100000 in
theorem wsl_X3_peg : Cond.selects RX3 yX3_peg yX3_peg ∈ WS := tb_in 260 (by decide +kernel) (by decide +kernel)
set_option maxRecDepth 100000 in
theorem wo_X3_witness : Cond.code yX3_witness cX3_witness 5 (some .int) ∈ WS := tb_in 387 (by decide +kernel) (by decide +kernel)
set_option maxRecDepth 100000 in
theorem wi_X3_witness : Cond.instanceMethod yX3_witness ∈ WS := tb_in 385 (by decide +kernel) (by decide +kernel)
set_option maxRecDepth 100000 in
theorem wsl_X3_witness : Cond.selects RX3 yX3_witness yX3_witness ∈ WS := tb_in 386 (by decide +kernel) (by decide +kernel)
set_option maxRecDepth 100000 in
theorem wo_X3_partner : Cond.code yX3_partner cX3_partner 5 (some .int) ∈ WS := tb_in 430 (by decide +kernel) (by decide +kernel)
set_option maxRecDepth 100000 in
theorem wi_X3_partner : Cond.instanceMethod yX3_partner ∈ WS := tb_in 428 (by decide +kernel) (by decide +kernel)
set_option maxRecDepth 100000 in
theorem wsl_X3_partner : Cond.selects RX3 yX3_partner yX3_partner ∈ WS := tb_in 429 (by decide +kernel) (by decide +kernel)
set_option maxRecDepth 100000 in
theorem wo_X3_dig : Cond.code yX3_dig cX3_dig 5 (some .int) ∈ WS := tb_in 438 (by decide +kernel) (by decide +kernel)
set_option maxRecDepth 100000 in
theorem wi_X3_dig : Cond.instanceMethod yX3_dig ∈ WS := tb_in 436 (by decide +kernel) (by decide +kernel)
set_option maxRecDepth 100000 in
theorem wsl_X3_dig : Cond.selects RX3 yX3_dig yX3_dig ∈ WS := tb_in 437 (by decide +kernel) (by decide +kernel)
set_option maxRecDepth 100000 in
theorem wo_X3_sink : Cond.code yX3_sink cX3_sink 5 (some .int) ∈ WS := tb_in 558 (by decide +kernel) (by decide +kernel)
set_option maxRecDepth 100000 in
theorem wi_X3_sink : Cond.instanceMethod yX3_sink ∈ WS := tb_in 556 (by decide +kernel) (by decide +kernel)
set_option maxRecDepth 100000 in
theorem wsl_X3_sink : Cond.selects RX3 yX3_sink yX3_sink ∈ WS := tb_in 557 (by decide +kernel) (by decide +kernel)
set_option maxRecDepth 100000 in
theorem wo_X3_prop : Cond.code yX3_prop cX3_prop 4 none ∈ WS := tb_in 568 (by decide +kernel) (by decide +kernel)
set_option maxRecDepth 100000 in
theorem wi_X3_prop : Cond.instanceMethod yX3_prop ∈ WS := tb_in 566 (by decide +kernel) (by decide +kernel)
set_option maxRecDepth 100000 in
theorem wsl_X3_prop : Cond.selects RX3 yX3_prop yX3_prop ∈ WS := tb_in 567 (by decide +kernel) (by decide +kernel)
set_option maxRecDepth 100000 in
theorem wo_X3_trap : Cond.code yX3_trap cX3_trap 4 (some .int) ∈ WS := tb_in 577 (by decide +kernel) (by decide +kernel)
set_option maxRecDepth 100000 in
theorem wi_X3_trap : Cond.instanceMethod yX3_trap ∈ WS := tb_in 575 (by decide +kernel) (by decide +kernel)
set_option maxRecDepth 100000 in
theorem wsl_X3_trap : Cond.selects RX3 yX3_trap yX3_trap ∈ WS := tb_in 576 (by decide +kernel) (by decide +kernel)
set_option maxRecDepth 100000 in
theorem wo_X3_rat : Cond.code yX3_rat cX3_rat 4 (some .int) ∈ WS := tb_in 591 (by decide +kernel) (by decide +kernel)
set_option maxRecDepth 100000 in
theorem wi_X3_rat : Cond.instanceMethod yX3_rat ∈ WS := tb_in 589 (by decide +kernel) (by decide +kernel)
set_option maxRecDepth 100000 in
theorem wsl_X3_rat : Cond.selects RX3 yX3_rat yX3_rat ∈ WS := tb_in 590 (by decide +kernel) (by decide +kernel)
set_option maxRecDepth 100000 in
theorem wo_X3_divide : Cond.code yX3_divide cX3_divide 8 (some .int) ∈ WS := tb_in 604 (by decide +kernel) (by decide +kernel)
set_option maxRecDepth 100000 in
theorem wi_X3_divide : Cond.instanceMethod yX3_divide ∈ WS := tb_in 602 (by decide +kernel) (by decide +kernel)
set_option maxRecDepth 100000 in
theorem wsl_X3_divide : Cond.selects RX3 yX3_divide yX3_divide ∈ WS := tb_in 603 (by decide +kernel) (by decide +kernel)
set_option maxRecDepth 100000 in
theorem wo_X3_rub : Cond.code yX3_rub cX3_rub 4 (some .int) ∈ WS := tb_in 647 (by decide +kernel) (by decide +kernel)
set_option maxRecDepth 100000 in
theorem wi_X3_rub : Cond.instanceMethod yX3_rub ∈ WS := tb_in 645 (by decide +kernel) (by decide +kernel)
set_option maxRecDepth 100000 in
theorem wsl_X3_rub : Cond.selects RX3 yX3_rub yX3_rub ∈ WS := tb_in 646 (by decide +kernel) (by decide +kernel)
set_option maxRecDepth 100000 in
theorem wo_X3_bid : Cond.code yX3_bid cX3_bid 5 (some .int) ∈ WS := tb_in 664 (by decide +kernel) (by decide +kernel)
set_option maxRecDepth 100000 in
theorem wi_X3_bid : Cond.instanceMethod yX3_bid ∈ WS := tb_in 662 (by decide +kernel) (by decide +kernel)
set_option maxRecDepth 100000 in
theorem wsl_X3_bid : Cond.selects RX3 yX3_bid yX3_bid ∈ WS := tb_in 663 (by decide +kernel) (by decide +kernel)
set_option maxRecDepth 100000 in
theorem wo_X3_sell : Cond.code yX3_sell cX3_sell 4 (some .int) ∈ WS := tb_in 677 (by decide +kernel) (by decide +kernel)
set_option maxRecDepth 100000 in
theorem wi_X3_sell : Cond.instanceMethod yX3_sell ∈ WS := tb_in 675 (by decide +kernel) (by decide +kernel)
set_option maxRecDepth 100000 in
theorem wsl_X3_sell : Cond.selects RX3 yX3_sell yX3_sell ∈ WS := tb_in 676 (by decide +kernel) (by decide +kernel)
set_option maxRecDepth 100000 in
theorem wo_X3_hour : Cond.code yX3_hour cX3_hour 1 (some .int) ∈ WS := tb_in 126 (by decide +kernel) (by decide +kernel)
set_option maxRecDepth 100000 in
theorem wi_X3_hour : Cond.instanceMethod yX3_hour ∈ WS := tb_in 124 (by decide +kernel) (by decide +kernel)
set_option maxRecDepth 100000 in
theorem wsl_X3_hour : Cond.selects RX3 yX3_hour yX3_hour ∈ WS := tb_in 125 (by decide +kernel) (by decide +kernel)
set_option maxRecDepth 100000 in
theorem wo_X3_bore : Cond.code yX3_bore cX3_bore 2 (some .int) ∈ WS := tb_in 693 (by decide +kernel) (by decide +kernel)
set_option maxRecDepth 100000 in
theorem wi_X3_bore : Cond.instanceMethod yX3_bore ∈ WS := tb_in 691 (by decide +kernel) (by decide +kernel)
set_option maxRecDepth 100000 in
theorem wsl_X3_bore : Cond.selects RX3 yX3_bore yX3_bore ∈ WS := tb_in 692 (by decide +kernel) (by decide +kernel)
set_option maxRecDepth 100000 in
theorem wo_X3_ofCell : Cond.code yX3_ofCell cX3_ofCell 3 (some .int) ∈ WS := tb_in 708 (by decide +kernel) (by decide +kernel)
set_option maxRecDepth 100000 in
theorem wi_X3_ofCell : Cond.instanceMethod yX3_ofCell ∈ WS := tb_in 706 (by decide +kernel) (by decide +kernel)
set_option maxRecDepth 100000 in
theorem wsl_X3_ofCell : Cond.selects RX3 yX3_ofCell yX3_ofCell ∈ WS := tb_in 707 (by decide +kernel) (by decide +kernel)
set_option maxRecDepth 100000 in
theorem wo_X3_ofClaim : Cond.code yX3_ofClaim cX3_ofClaim 4 (some .int) ∈ WS := tb_in 716 (by decide +kernel) (by decide +kernel)
set_option maxRecDepth 100000 in
theorem wi_X3_ofClaim : Cond.instanceMethod yX3_ofClaim ∈ WS := tb_in 714 (by decide +kernel) (by decide +kernel)
set_option maxRecDepth 100000 in
theorem wsl_X3_ofClaim : Cond.selects RX3 yX3_ofClaim yX3_ofClaim ∈ WS := tb_in 715 (by decide +kernel) (by decide +kernel)
set_option maxRecDepth 100000 in
theorem wo_X3_share : Cond.code yX3_share cX3_share 4 (some .int) ∈ WS := tb_in 729 (by decide +kernel) (by decide +kernel)
set_option maxRecDepth 100000 in
theorem wi_X3_share : Cond.instanceMethod yX3_share ∈ WS := tb_in 727 (by decide +kernel) (by decide +kernel)
set_option maxRecDepth 100000 in
theorem wsl_X3_share : Cond.selects RX3 yX3_share yX3_share ∈ WS := tb_in 728 (by decide +kernel) (by decide +kernel)
set_option maxRecDepth 100000 in
theorem wo_X3_verdict : Cond.code yX3_verdict cX3_verdict 5 (some .int) ∈ WS := tb_in 736 (by decide +kernel) (by decide +kernel)
set_option maxRecDepth 100000 in
theorem wi_X3_verdict : Cond.instanceMethod yX3_verdict ∈ WS := tb_in 734 (by decide +kernel) (by decide +kernel)
set_option maxRecDepth 100000 in
theorem wsl_X3_verdict : Cond.selects RX3 yX3_verdict yX3_verdict ∈ WS := tb_in 735 (by decide +kernel) (by decide +kernel)
set_option maxRecDepth 100000 in
theorem wo_X3_ofPerson : Cond.code yX3_ofPerson cX3_ofPerson 3 (some .int) ∈ WS := tb_in 749 (by decide +kernel) (by decide +kernel)
set_option maxRecDepth 100000 in
theorem wi_X3_ofPerson : Cond.instanceMethod yX3_ofPerson ∈ WS := tb_in 747 (by decide +kernel) (by decide +kernel)
set_option maxRecDepth 100000 in
theorem wsl_X3_ofPerson : Cond.selects RX3 yX3_ofPerson yX3_ofPerson ∈ WS := tb_in 748 (by decide +kernel) (by decide +kernel)
set_option maxRecDepth 100000 in
theorem wo_X3_ofStone : Cond.code yX3_ofStone cX3_ofStone 4 (some .int) ∈ WS := tb_in 761 (by decide +kernel) (by decide +kernel)
set_option maxRecDepth 100000 in
theorem wi_X3_ofStone : Cond.instanceMethod yX3_ofStone ∈ WS := tb_in 759 (by decide +kernel) (by decide +kernel)
set_option maxRecDepth 100000 in
theorem wsl_X3_ofStone : Cond.selects RX3 yX3_ofStone yX3_ofStone ∈ WS := tb_in 760 (by decide +kernel) (by decide +kernel)
set_option maxRecDepth 100000 in
theorem wo_X3_purse : Cond.code yX3_purse cX3_purse 2 (some .int) ∈ WS := tb_in 774 (by decide +kernel) (by decide +kernel)
set_option maxRecDepth 100000 in
theorem wi_X3_purse : Cond.instanceMethod yX3_purse ∈ WS := tb_in 772 (by decide +kernel) (by decide +kernel)
set_option maxRecDepth 100000 in
theorem wsl_X3_purse : Cond.selects RX3 yX3_purse yX3_purse ∈ WS := tb_in 773 (by decide +kernel) (by decide +kernel)
set_option maxRecDepth 100000 in
theorem wo_X3_carats : Cond.code yX3_carats cX3_carats 2 (some .int) ∈ WS := tb_in 781 (by decide +kernel) (by decide +kernel)
set_option maxRecDepth 100000 in
theorem wi_X3_carats : Cond.instanceMethod yX3_carats ∈ WS := tb_in 779 (by decide +kernel) (by decide +kernel)
set_option maxRecDepth 100000 in
theorem wsl_X3_carats : Cond.selects RX3 yX3_carats yX3_carats ∈ WS := tb_in 780 (by decide +kernel) (by decide +kernel)
set_option maxRecDepth 100000 in
theorem wo_X3_plan : Cond.code yX3_plan cX3_plan 4 (some .int) ∈ WS := tb_in 800 (by decide +kernel) (by decide +kernel)
set_option maxRecDepth 100000 in
theorem wi_X3_plan : Cond.instanceMethod yX3_plan ∈ WS := tb_in 798 (by decide +kernel) (by decide +kernel)
set_option maxRecDepth 100000 in
theorem wsl_X3_plan : Cond.selects RX3 yX3_plan yX3_plan ∈ WS := tb_in 799 (by decide +kernel) (by decide +kernel)
set_option maxRecDepth 100000 in
theorem wo_X3_planAnew : Cond.code yX3_planAnew cX3_planAnew 4 (some .int) ∈ WS := tb_in 823 (by decide +kernel) (by decide +kernel)
set_option maxRecDepth 100000 in
theorem wi_X3_planAnew : Cond.instanceMethod yX3_planAnew ∈ WS := tb_in 821 (by decide +kernel) (by decide +kernel)
set_option maxRecDepth 100000 in
theorem wsl_X3_planAnew : Cond.selects RX3 yX3_planAnew yX3_planAnew ∈ WS := tb_in 822 (by decide +kernel) (by decide +kernel)
set_option maxRecDepth 100000 in
theorem wo_X3_needCell : Cond.code yX3_needCell cX3_needCell 1 none ∈ WS := tb_in 139 (by decide +kernel) (by decide +kernel)
set_option maxRecDepth 100000 in
theorem wst_X3_needCell : Cond.static yX3_needCell ∈ WS := tb_in 138 (by decide +kernel) (by decide +kernel)
set_option maxRecDepth 100000 in
theorem wo_X3_needPerson : Cond.code yX3_needPerson cX3_needPerson 1 none ∈ WS := tb_in 264 (by decide +kernel) (by decide +kernel)
set_option maxRecDepth 100000 in
theorem wst_X3_needPerson : Cond.static yX3_needPerson ∈ WS := tb_in 263 (by decide +kernel) (by decide +kernel)
set_option maxRecDepth 100000 in
theorem wo_X3_needBuyer : Cond.code yX3_needBuyer cX3_needBuyer 1 none ∈ WS := tb_in 667 (by decide +kernel) (by decide +kernel)
set_option maxRecDepth 100000 in
theorem wst_X3_needBuyer : Cond.static yX3_needBuyer ∈ WS := tb_in 666 (by decide +kernel) (by decide +kernel)
set_option maxRecDepth 100000 in
theorem wo_X3_claimAt : Cond.code yX3_claimAt cX3_claimAt 2 (some (.object "OpalField$Claim")) ∈ WS := tb_in 391 (by decide +kernel) (by decide +kernel)
set_option maxRecDepth 100000 in
theorem wi_X3_claimAt : Cond.instanceMethod yX3_claimAt ∈ WS := tb_in 390 (by decide +kernel) (by decide +kernel)
set_option maxRecDepth 100000 in
theorem wsl_X3_claimAt : Cond.selects RX3 yX3_claimAt yX3_claimAt ∈ WS := pv_in 6 (by decide +kernel) (by decide +kernel)
set_option maxRecDepth 100000 in
theorem wo_X3_stoneAt : Cond.code yX3_stoneAt cX3_stoneAt 2 (some (.object "OpalField$Stone")) ∈ WS := tb_in 630 (by decide +kernel) (by decide +kernel)
set_option maxRecDepth 100000 in
theorem wi_X3_stoneAt : Cond.instanceMethod yX3_stoneAt ∈ WS := tb_in 629 (by decide +kernel) (by decide +kernel)
set_option maxRecDepth 100000 in
theorem wsl_X3_stoneAt : Cond.selects RX3 yX3_stoneAt yX3_stoneAt ∈ WS := pv_in 15 (by decide +kernel) (by decide +kernel)
set_option maxRecDepth 100000 in
theorem wo_X3_needRange : Cond.code yX3_needRange cX3_needRange 3 none ∈ WS := tb_in 213 (by decide +kernel) (by decide +kernel)
set_option maxRecDepth 100000 in
theorem wst_X3_needRange : Cond.static yX3_needRange ∈ WS := tb_in 212 (by decide +kernel) (by decide +kernel)
set_option maxRecDepth 100000 in
theorem wo_X3_needFree : Cond.code yX3_needFree cX3_needFree 2 none ∈ WS := tb_in 275 (by decide +kernel) (by decide +kernel)
set_option maxRecDepth 100000 in
theorem wi_X3_needFree : Cond.instanceMethod yX3_needFree ∈ WS := tb_in 274 (by decide +kernel) (by decide +kernel)
set_option maxRecDepth 100000 in
theorem wsl_X3_needFree : Cond.selects RX3 yX3_needFree yX3_needFree ∈ WS := pv_in 1 (by decide +kernel) (by decide +kernel)
set_option maxRecDepth 100000 in
theorem wo_X3_claimAtHand : Cond.code yX3_claimAtHand cX3_claimAtHand 5 (some (.object "OpalField$Claim")) ∈ WS := tb_in 442 (by decide +kernel) (by decide +kernel)
set_option maxRecDepth 100000 in
theorem wi_X3_claimAtHand : Cond.instanceMethod yX3_claimAtHand ∈ WS := tb_in 441 (by decide +kernel) (by decide +kernel)
set_option maxRecDepth 100000 in
theorem wsl_X3_claimAtHand : Cond.selects RX3 yX3_claimAtHand yX3_claimAtHand ∈ WS := pv_in 7 (by decide +kernel) (by decide +kernel)
set_option maxRecDepth 100000 in
theorem wo_X3_needOfPerson : Cond.code yX3_needOfPerson cX3_needOfPerson 1 none ∈ WS := tb_in 650 (by decide +kernel) (by decide +kernel)
set_option maxRecDepth 100000 in
theorem wst_X3_needOfPerson : Cond.static yX3_needOfPerson ∈ WS := tb_in 649 (by decide +kernel) (by decide +kernel)
set_option maxRecDepth 100000 in
theorem wo_X3_isCell : Cond.code yX3_isCell cX3_isCell 1 (some .boolean) ∈ WS := tb_in 142 (by decide +kernel) (by decide +kernel)
set_option maxRecDepth 100000 in
theorem wst_X3_isCell : Cond.static yX3_isCell ∈ WS := tb_in 141 (by decide +kernel) (by decide +kernel)
set_option maxRecDepth 100000 in
theorem wo_X3_oneIf : Cond.code yX3_oneIf cX3_oneIf 1 (some .int) ∈ WS := tb_in 423 (by decide +kernel) (by decide +kernel)
set_option maxRecDepth 100000 in
theorem wst_X3_oneIf : Cond.static yX3_oneIf ∈ WS := tb_in 422 (by decide +kernel) (by decide +kernel)
set_option maxRecDepth 100000 in
theorem wo_X3_sum : Cond.code yX3_sum cX3_sum 3 (some .int) ∈ WS := tb_in 784 (by decide +kernel) (by decide +kernel)
set_option maxRecDepth 100000 in
theorem wst_X3_sum : Cond.static yX3_sum ∈ WS := tb_in 783 (by decide +kernel) (by decide +kernel)
set_option maxRecDepth 100000 in
theorem wo_X3_isNight : Cond.code yX3_isNight cX3_isNight 2 (some .boolean) ∈ WS := tb_in 595 (by decide +kernel) (by decide +kernel)
set_option maxRecDepth 100000 in
theorem wi_X3_isNight : Cond.instanceMethod yX3_isNight ∈ WS := tb_in 594 (by decide +kernel) (by decide +kernel)
set_option maxRecDepth 100000 in
theorem wsl_X3_isNight : Cond.selects RX3 yX3_isNight yX3_isNight ∈ WS := pv_in 11 (by decide +kernel) (by decide +kernel)
set_option maxRecDepth 100000 in
theorem wo_X3_hoursBarred : Cond.code yX3_hoursBarred cX3_hoursBarred 2 (some .int) ∈ WS := tb_in 279 (by decide +kernel) (by decide +kernel)
set_option maxRecDepth 100000 in
theorem wi_X3_hoursBarred : Cond.instanceMethod yX3_hoursBarred ∈ WS := tb_in 278 (by decide +kernel) (by decide +kernel)
set_option maxRecDepth 100000 in
theorem wsl_X3_hoursBarred : Cond.selects RX3 yX3_hoursBarred yX3_hoursBarred ∈ WS := pv_in 2 (by decide +kernel) (by decide +kernel)
set_option maxRecDepth 100000 in
theorem wo_X3_holderOf : Cond.code yX3_holderOf cX3_holderOf 6 (some .int) ∈ WS := tb_in 447 (by decide +kernel) (by decide +kernel)
set_option maxRecDepth 100000 in
theorem wi_X3_holderOf : Cond.instanceMethod yX3_holderOf ∈ WS := tb_in 446 (by decide +kernel) (by decide +kernel)
set_option maxRecDepth 100000 in
theorem wsl_X3_holderOf : Cond.selects RX3 yX3_holderOf yX3_holderOf ∈ WS := pv_in 8 (by decide +kernel) (by decide +kernel)
set_option maxRecDepth 100000 in
theorem wo_X3_cellsHeldBy : Cond.code yX3_cellsHeldBy cX3_cellsHeldBy 4 (some .int) ∈ WS := tb_in 720 (by decide +kernel) (by decide +kernel)
set_option maxRecDepth 100000 in
theorem wi_X3_cellsHeldBy : Cond.instanceMethod yX3_cellsHeldBy ∈ WS := tb_in 719 (by decide +kernel) (by decide +kernel)
set_option maxRecDepth 100000 in
theorem wsl_X3_cellsHeldBy : Cond.selects RX3 yX3_cellsHeldBy yX3_cellsHeldBy ∈ WS := pv_in 16 (by decide +kernel) (by decide +kernel)
set_option maxRecDepth 100000 in
theorem wo_X3_work : Cond.code yX3_work cX3_work 4 (some .int) ∈ WS := tb_in 475 (by decide +kernel) (by decide +kernel)
set_option maxRecDepth 100000 in
theorem wi_X3_work : Cond.instanceMethod yX3_work ∈ WS := tb_in 474 (by decide +kernel) (by decide +kernel)
set_option maxRecDepth 100000 in
theorem wsl_X3_work : Cond.selects RX3 yX3_work yX3_work ∈ WS := pv_in 9 (by decide +kernel) (by decide +kernel)
set_option maxRecDepth 100000 in
theorem wo_X3_uncover : Cond.code yX3_uncover cX3_uncover 5 (some .int) ∈ WS := tb_in 479 (by decide +kernel) (by decide +kernel)
set_option maxRecDepth 100000 in
theorem wi_X3_uncover : Cond.instanceMethod yX3_uncover ∈ WS := tb_in 478 (by decide +kernel) (by decide +kernel)
set_option maxRecDepth 100000 in
theorem wsl_X3_uncover : Cond.selects RX3 yX3_uncover yX3_uncover ∈ WS := pv_in 10 (by decide +kernel) (by decide +kernel)
set_option maxRecDepth 100000 in
theorem wo_X3_stonesInParcel : Cond.code yX3_stonesInParcel cX3_stonesInParcel 4 (some .int) ∈ WS := tb_in 608 (by decide +kernel) (by decide +kernel)
set_option maxRecDepth 100000 in
theorem wi_X3_stonesInParcel : Cond.instanceMethod yX3_stonesInParcel ∈ WS := tb_in 607 (by decide +kernel) (by decide +kernel)
set_option maxRecDepth 100000 in
theorem wsl_X3_stonesInParcel : Cond.selects RX3 yX3_stonesInParcel yX3_stonesInParcel ∈ WS := pv_in 12 (by decide +kernel) (by decide +kernel)
set_option maxRecDepth 100000 in
theorem wo_X3_caratsInParcel : Cond.code yX3_caratsInParcel cX3_caratsInParcel 5 (some .int) ∈ WS := tb_in 622 (by decide +kernel) (by decide +kernel)
set_option maxRecDepth 100000 in
theorem wi_X3_caratsInParcel : Cond.instanceMethod yX3_caratsInParcel ∈ WS := tb_in 621 (by decide +kernel) (by decide +kernel)
set_option maxRecDepth 100000 in
theorem wsl_X3_caratsInParcel : Cond.selects RX3 yX3_caratsInParcel yX3_caratsInParcel ∈ WS := pv_in 13 (by decide +kernel) (by decide +kernel)
set_option maxRecDepth 100000 in
theorem wo_X3_heaviestInParcel : Cond.code yX3_heaviestInParcel cX3_heaviestInParcel 6 (some .int) ∈ WS := tb_in 626 (by decide +kernel) (by decide +kernel)
set_option maxRecDepth 100000 in
theorem wi_X3_heaviestInParcel : Cond.instanceMethod yX3_heaviestInParcel ∈ WS := tb_in 625 (by decide +kernel) (by decide +kernel)
set_option maxRecDepth 100000 in
theorem wsl_X3_heaviestInParcel : Cond.selects RX3 yX3_heaviestInParcel yX3_heaviestInParcel ∈ WS := pv_in 14 (by decide +kernel) (by decide +kernel)
set_option maxRecDepth 100000 in
theorem wo_X3_stonesOfPerson : Cond.code yX3_stonesOfPerson cX3_stonesOfPerson 5 (some .int) ∈ WS := tb_in 753 (by decide +kernel) (by decide +kernel)
set_option maxRecDepth 100000 in
theorem wi_X3_stonesOfPerson : Cond.instanceMethod yX3_stonesOfPerson ∈ WS := tb_in 752 (by decide +kernel) (by decide +kernel)
set_option maxRecDepth 100000 in
theorem wsl_X3_stonesOfPerson : Cond.selects RX3 yX3_stonesOfPerson yX3_stonesOfPerson ∈ WS := pv_in 17 (by decide +kernel) (by decide +kernel)
set_option maxRecDepth 100000 in
theorem wo_X3_caratsOfStones : Cond.code yX3_caratsOfStones cX3_caratsOfStones 5 (some .int) ∈ WS := tb_in 788 (by decide +kernel) (by decide +kernel)
set_option maxRecDepth 100000 in
theorem wi_X3_caratsOfStones : Cond.instanceMethod yX3_caratsOfStones ∈ WS := tb_in 787 (by decide +kernel) (by decide +kernel)
set_option maxRecDepth 100000 in
theorem wsl_X3_caratsOfStones : Cond.selects RX3 yX3_caratsOfStones yX3_caratsOfStones ∈ WS := pv_in 18 (by decide +kernel) (by decide +kernel)
set_option maxRecDepth 100000 in
theorem wo_X3_caratsLost : Cond.code yX3_caratsLost cX3_caratsLost 3 (some .int) ∈ WS := tb_in 792 (by decide +kernel) (by decide +kernel)
set_option maxRecDepth 100000 in
theorem wi_X3_caratsLost : Cond.instanceMethod yX3_caratsLost ∈ WS := tb_in 791 (by decide +kernel) (by decide +kernel)
set_option maxRecDepth 100000 in
theorem wsl_X3_caratsLost : Cond.selects RX3 yX3_caratsLost yX3_caratsLost ∈ WS := pv_in 19 (by decide +kernel) (by decide +kernel)
set_option maxRecDepth 100000 in
theorem wo_X3_listDiggable : Cond.code yX3_listDiggable cX3_listDiggable 4 (some .int) ∈ WS := tb_in 804 (by decide +kernel) (by decide +kernel)
set_option maxRecDepth 100000 in
theorem wi_X3_listDiggable : Cond.instanceMethod yX3_listDiggable ∈ WS := tb_in 803 (by decide +kernel) (by decide +kernel)
set_option maxRecDepth 100000 in
theorem wsl_X3_listDiggable : Cond.selects RX3 yX3_listDiggable yX3_listDiggable ∈ WS := pv_in 20 (by decide +kernel) (by decide +kernel)
set_option maxRecDepth 100000 in
theorem wo_X3_mostBySets : Cond.code yX3_mostBySets cX3_mostBySets 10 (some .int) ∈ WS := tb_in 807 (by decide +kernel) (by decide +kernel)
set_option maxRecDepth 100000 in
theorem wst_X3_mostBySets : Cond.static yX3_mostBySets ∈ WS := tb_in 806 (by decide +kernel) (by decide +kernel)
set_option maxRecDepth 100000 in
theorem wo_X3_mostByRows : Cond.code yX3_mostByRows cX3_mostByRows 9 (some .int) ∈ WS := tb_in 826 (by decide +kernel) (by decide +kernel)
set_option maxRecDepth 100000 in
theorem wst_X3_mostByRows : Cond.static yX3_mostByRows ∈ WS := tb_in 825 (by decide +kernel) (by decide +kernel)
set_option maxRecDepth 100000 in
theorem wo_X4_init : Cond.code yX4_init cX4_init 2 none ∈ WS := tb_in 831 (by decide +kernel) (by decide +kernel)
set_option maxRecDepth 100000 in
theorem wi_X4_init : Cond.instanceMethod yX4_init ∈ WS := tb_in 830 (by decide +kernel) (by decide +kernel)
set_option maxRecDepth 100000 in
theorem wo_X4_thrown : Cond.code yX4_thrown cX4_thrown 1 (some .int) ∈ WS := tb_in 948 (by decide +kernel) (by decide +kernel)
set_option maxRecDepth 100000 in
theorem wi_X4_thrown : Cond.instanceMethod yX4_thrown ∈ WS := tb_in 946 (by decide +kernel) (by decide +kernel)
set_option maxRecDepth 100000 in
theorem wsl_X4_thrown : Cond.selects RX4 yX4_thrown yX4_thrown ∈ WS := tb_in 947 (by decide +kernel) (by decide +kernel)
set_option maxRecDepth 100000 in
theorem wo_X4_in : Cond.code yX4_in cX4_in 3 (some .boolean) ∈ WS := tb_in 955 (by decide +kernel) (by decide +kernel)
set_option maxRecDepth 100000 in
theorem wst_X4_in : Cond.static yX4_in ∈ WS := tb_in 954 (by decide +kernel) (by decide +kernel)
set_option maxRecDepth 100000 in
theorem wo_X4_isCell : Cond.code yX4_isCell cX4_isCell 1 (some .boolean) ∈ WS := tb_in 958 (by decide +kernel) (by decide +kernel)
set_option maxRecDepth 100000 in
theorem wst_X4_isCell : Cond.static yX4_isCell ∈ WS := tb_in 957 (by decide +kernel) (by decide +kernel)
set_option maxRecDepth 100000 in
theorem wo_X4_isPerson : Cond.code yX4_isPerson cX4_isPerson 1 (some .boolean) ∈ WS := tb_in 969 (by decide +kernel) (by decide +kernel)
set_option maxRecDepth 100000 in
theorem wst_X4_isPerson : Cond.static yX4_isPerson ∈ WS := tb_in 968 (by decide +kernel) (by decide +kernel)
set_option maxRecDepth 100000 in
theorem wo_X4_isClaim : Cond.code yX4_isClaim cX4_isClaim 2 (some .boolean) ∈ WS := tb_in 981 (by decide +kernel) (by decide +kernel)
set_option maxRecDepth 100000 in
theorem wi_X4_isClaim : Cond.instanceMethod yX4_isClaim ∈ WS := tb_in 980 (by decide +kernel) (by decide +kernel)
set_option maxRecDepth 100000 in
theorem wsl_X4_isClaim : Cond.selects RX4 yX4_isClaim yX4_isClaim ∈ WS := pv_in 22 (by decide +kernel) (by decide +kernel)
set_option maxRecDepth 100000 in
theorem wo_X4_isStone : Cond.code yX4_isStone cX4_isStone 2 (some .boolean) ∈ WS := tb_in 1104 (by decide +kernel) (by decide +kernel)
set_option maxRecDepth 100000 in
theorem wi_X4_isStone : Cond.instanceMethod yX4_isStone ∈ WS := tb_in 1103 (by decide +kernel) (by decide +kernel)
set_option maxRecDepth 100000 in
theorem wsl_X4_isStone : Cond.selects RX4 yX4_isStone yX4_isStone ∈ WS := pv_in 44 (by decide +kernel) (by decide +kernel)
set_option maxRecDepth 100000 in
theorem wo_X4_isBarred : Cond.code yX4_isBarred cX4_isBarred 2 (some .boolean) ∈ WS := tb_in 973 (by decide +kernel) (by decide +kernel)
set_option maxRecDepth 100000 in
theorem wi_X4_isBarred : Cond.instanceMethod yX4_isBarred ∈ WS := tb_in 972 (by decide +kernel) (by decide +kernel)
set_option maxRecDepth 100000 in
theorem wsl_X4_isBarred : Cond.selects RX4 yX4_isBarred yX4_isBarred ∈ WS := pv_in 21 (by decide +kernel) (by decide +kernel)
set_option maxRecDepth 100000 in
theorem wo_X4_beside : Cond.code yX4_beside cX4_beside 4 (some .int) ∈ WS := tb_in 1028 (by decide +kernel) (by decide +kernel)
set_option maxRecDepth 100000 in
theorem wst_X4_beside : Cond.static yX4_beside ∈ WS := tb_in 1027 (by decide +kernel) (by decide +kernel)
set_option maxRecDepth 100000 in
theorem wo_X4_seam : Cond.code yX4_seam cX4_seam 5 none ∈ WS := tb_in 952 (by decide +kernel) (by decide +kernel)
set_option maxRecDepth 100000 in
theorem wi_X4_seam : Cond.instanceMethod yX4_seam ∈ WS := tb_in 950 (by decide +kernel) (by decide +kernel)
set_option maxRecDepth 100000 in
theorem wsl_X4_seam : Cond.selects RX4 yX4_seam yX4_seam ∈ WS := tb_in 951 (by decide +kernel) (by decide +kernel)
set_option maxRecDepth 100000 in
theorem wo_X4_pass : Cond.code yX4_pass cX4_pass 2 (some .int) ∈ WS := tb_in 962 (by decide +kernel) (by decide +kernel)
set_option maxRecDepth 100000 in
theorem wi_X4_pass : Cond.instanceMethod yX4_pass ∈ WS := tb_in 960 (by decide +kernel) (by decide +kernel)
set_option maxRecDepth 100000 in
theorem wsl_X4_pass : Cond.selects RX4 yX4_pass yX4_pass ∈ WS := tb_in 961 (by decide +kernel) (by decide +kernel)
set_option maxRecDepth 100000 in
theorem wo_X4_peg : Cond.code yX4_peg cX4_peg 7 (some .int) ∈ WS := tb_in 966 (by decide +kernel) (by decide +kernel)
set_option maxRecDepth 100000 in
theorem wi_X4_peg : Cond.instanceMethod yX4_peg ∈ WS := tb_in 964 (by decide +kernel) (by decide +kernel)
set_option maxRecDepth 100000 in
theorem wsl_X4_peg : Cond.selects RX4 yX4_peg yX4_peg ∈ WS := tb_in 965 (by decide +kernel) (by decide +kernel)
set_option maxRecDepth 100000 in
theorem wo_X4_ownersShare : Cond.code yX4_ownersShare cX4_ownersShare 4 (some .int) ∈ WS := tb_in 989 (by decide +kernel) (by decide +kernel)
set_option maxRecDepth 100000 in
theorem wi_X4_ownersShare : Cond.instanceMethod yX4_ownersShare ∈ WS := tb_in 988 (by decide +kernel) (by decide +kernel)
set_option maxRecDepth 100000 in
theorem wsl_X4_ownersShare : Cond.selects RX4 yX4_ownersShare yX4_ownersShare ∈ WS := pv_in 24 (by decide +kernel) (by decide +kernel)
set_option maxRecDepth 100000 in
theorem wo_X4_shareOf : Cond.code yX4_shareOf cX4_shareOf 3 (some .int) ∈ WS := tb_in 985 (by decide +kernel) (by decide +kernel)
set_option maxRecDepth 100000 in
theorem wi_X4_shareOf : Cond.instanceMethod yX4_shareOf ∈ WS := tb_in 984 (by decide +kernel) (by decide +kernel)
set_option maxRecDepth 100000 in
theorem wsl_X4_shareOf : Cond.selects RX4 yX4_shareOf yX4_shareOf ∈ WS := pv_in 23 (by decide +kernel) (by decide +kernel)
set_option maxRecDepth 100000 in
theorem wo_X4_isLive : Cond.code yX4_isLive cX4_isLive 2 (some .boolean) ∈ WS := tb_in 1017 (by decide +kernel) (by decide +kernel)
set_option maxRecDepth 100000 in
theorem wi_X4_isLive : Cond.instanceMethod yX4_isLive ∈ WS := tb_in 1016 (by decide +kernel) (by decide +kernel)
set_option maxRecDepth 100000 in
theorem wsl_X4_isLive : Cond.selects RX4 yX4_isLive yX4_isLive ∈ WS := pv_in 29 (by decide +kernel) (by decide +kernel)
set_option maxRecDepth 100000 in
theorem wo_X4_upTo : Cond.code yX4_upTo cX4_upTo 6 (some .int) ∈ WS := tb_in 997 (by decide +kernel) (by decide +kernel)
set_option maxRecDepth 100000 in
theorem wi_X4_upTo : Cond.instanceMethod yX4_upTo ∈ WS := tb_in 996 (by decide +kernel) (by decide +kernel)
set_option maxRecDepth 100000 in
theorem wsl_X4_upTo : Cond.selects RX4 yX4_upTo yX4_upTo ∈ WS := pv_in 26 (by decide +kernel) (by decide +kernel)
set_option maxRecDepth 100000 in
theorem wo_X4_hourOf : Cond.code yX4_hourOf cX4_hourOf 7 (some .int) ∈ WS := tb_in 993 (by decide +kernel) (by decide +kernel)
set_option maxRecDepth 100000 in
theorem wi_X4_hourOf : Cond.instanceMethod yX4_hourOf ∈ WS := tb_in 992 (by decide +kernel) (by decide +kernel)
set_option maxRecDepth 100000 in
theorem wsl_X4_hourOf : Cond.selects RX4 yX4_hourOf yX4_hourOf ∈ WS := pv_in 25 (by decide +kernel) (by decide +kernel)
set_option maxRecDepth 100000 in
theorem wo_X4_witness : Cond.code yX4_witness cX4_witness 4 (some .int) ∈ WS := tb_in 977 (by decide +kernel) (by decide +kernel)
set_option maxRecDepth 100000 in
theorem wi_X4_witness : Cond.instanceMethod yX4_witness ∈ WS := tb_in 975 (by decide +kernel) (by decide +kernel)
set_option maxRecDepth 100000 in
theorem wsl_X4_witness : Cond.selects RX4 yX4_witness yX4_witness ∈ WS := tb_in 976 (by decide +kernel) (by decide +kernel)
set_option maxRecDepth 100000 in
theorem wo_X4_partner : Cond.code yX4_partner cX4_partner 4 (some .int) ∈ WS := tb_in 1001 (by decide +kernel) (by decide +kernel)
set_option maxRecDepth 100000 in
theorem wi_X4_partner : Cond.instanceMethod yX4_partner ∈ WS := tb_in 999 (by decide +kernel) (by decide +kernel)
set_option maxRecDepth 100000 in
theorem wsl_X4_partner : Cond.selects RX4 yX4_partner yX4_partner ∈ WS := tb_in 1000 (by decide +kernel) (by decide +kernel)
set_option maxRecDepth 100000 in
theorem wo_X4_covers : Cond.code yX4_covers cX4_covers 5 (some .boolean) ∈ WS := tb_in 1021 (by decide +kernel) (by decide +kernel)
set_option maxRecDepth 100000 in
theorem wi_X4_covers : Cond.instanceMethod yX4_covers ∈ WS := tb_in 1020 (by decide +kernel) (by decide +kernel)
set_option maxRecDepth 100000 in
theorem wsl_X4_covers : Cond.selects RX4 yX4_covers yX4_covers ∈ WS := pv_in 30 (by decide +kernel) (by decide +kernel)
set_option maxRecDepth 100000 in
theorem wo_X4_holder : Cond.code yX4_holder cX4_holder 4 (some .int) ∈ WS := tb_in 1013 (by decide +kernel) (by decide +kernel)
set_option maxRecDepth 100000 in
theorem wi_X4_holder : Cond.instanceMethod yX4_holder ∈ WS := tb_in 1012 (by decide +kernel) (by decide +kernel)
set_option maxRecDepth 100000 in
theorem wsl_X4_holder : Cond.selects RX4 yX4_holder yX4_holder ∈ WS := pv_in 28 (by decide +kernel) (by decide +kernel)
set_option maxRecDepth 100000 in
theorem wo_X4_isBesideOpen : Cond.code yX4_isBesideOpen cX4_isBesideOpen 5 (some .boolean) ∈ WS := tb_in 1025 (by decide +kernel) (by decide +kernel)
set_option maxRecDepth 100000 in
theorem wi_X4_isBesideOpen : Cond.instanceMethod yX4_isBesideOpen ∈ WS := tb_in 1024 (by decide +kernel) (by decide +kernel)
set_option maxRecDepth 100000 in
theorem wsl_X4_isBesideOpen : Cond.selects RX4 yX4_isBesideOpen yX4_isBesideOpen ∈ WS := pv_in 31 (by decide +kernel) (by decide +kernel)
set_option maxRecDepth 100000 in
theorem wo_X4_isLoose : Cond.code yX4_isLoose cX4_isLoose 2 (some .boolean) ∈ WS := tb_in 1044 (by decide +kernel) (by decide +kernel)
set_option maxRecDepth 100000 in
theorem wi_X4_isLoose : Cond.instanceMethod yX4_isLoose ∈ WS := tb_in 1043 (by decide +kernel) (by decide +kernel)
set_option maxRecDepth 100000 in
theorem wsl_X4_isLoose : Cond.selects RX4 yX4_isLoose yX4_isLoose ∈ WS := pv_in 35 (by decide +kernel) (by decide +kernel)
set_option maxRecDepth 100000 in
theorem wo_X4_run : Cond.code yX4_run cX4_run 5 (some .int) ∈ WS := tb_in 1040 (by decide +kernel) (by decide +kernel)
set_option maxRecDepth 100000 in
theorem wi_X4_run : Cond.instanceMethod yX4_run ∈ WS := tb_in 1039 (by decide +kernel) (by decide +kernel)
set_option maxRecDepth 100000 in
theorem wsl_X4_run : Cond.selects RX4 yX4_run yX4_run ∈ WS := pv_in 34 (by decide +kernel) (by decide +kernel)
set_option maxRecDepth 100000 in
theorem wo_X4_marks : Cond.code yX4_marks cX4_marks 4 none ∈ WS := tb_in 1048 (by decide +kernel) (by decide +kernel)
set_option maxRecDepth 100000 in
theorem wi_X4_marks : Cond.instanceMethod yX4_marks ∈ WS := tb_in 1047 (by decide +kernel) (by decide +kernel)
set_option maxRecDepth 100000 in
theorem wsl_X4_marks : Cond.selects RX4 yX4_marks yX4_marks ∈ WS := pv_in 36 (by decide +kernel) (by decide +kernel)
set_option maxRecDepth 100000 in
theorem wo_X4_isFall : Cond.code yX4_isFall cX4_isFall 2 (some .boolean) ∈ WS := tb_in 1204 (by decide +kernel) (by decide +kernel)
set_option maxRecDepth 100000 in
theorem wi_X4_isFall : Cond.instanceMethod yX4_isFall ∈ WS := tb_in 1203 (by decide +kernel) (by decide +kernel)
set_option maxRecDepth 100000 in
theorem wsl_X4_isFall : Cond.selects RX4 yX4_isFall yX4_isFall ∈ WS := pv_in 55 (by decide +kernel) (by decide +kernel)
set_option maxRecDepth 100000 in
theorem wo_X4_mayFall : Cond.code yX4_mayFall cX4_mayFall 3 none ∈ WS := tb_in 1036 (by decide +kernel) (by decide +kernel)
set_option maxRecDepth 100000 in
theorem wi_X4_mayFall : Cond.instanceMethod yX4_mayFall ∈ WS := tb_in 1035 (by decide +kernel) (by decide +kernel)
set_option maxRecDepth 100000 in
theorem wsl_X4_mayFall : Cond.selects RX4 yX4_mayFall yX4_mayFall ∈ WS := pv_in 33 (by decide +kernel) (by decide +kernel)
set_option maxRecDepth 100000 in
theorem wo_X4_opens : Cond.code yX4_opens cX4_opens 5 (some .int) ∈ WS := tb_in 1032 (by decide +kernel) (by decide +kernel)
set_option maxRecDepth 100000 in
theorem wi_X4_opens : Cond.instanceMethod yX4_opens ∈ WS := tb_in 1031 (by decide +kernel) (by decide +kernel)
set_option maxRecDepth 100000 in
theorem wsl_X4_opens : Cond.selects RX4 yX4_opens yX4_opens ∈ WS := pv_in 32 (by decide +kernel) (by decide +kernel)
set_option maxRecDepth 100000 in
theorem wo_X4_asks : Cond.code yX4_asks cX4_asks 4 none ∈ WS := tb_in 1009 (by decide +kernel) (by decide +kernel)
set_option maxRecDepth 100000 in
theorem wi_X4_asks : Cond.instanceMethod yX4_asks ∈ WS := tb_in 1008 (by decide +kernel) (by decide +kernel)
set_option maxRecDepth 100000 in
theorem wsl_X4_asks : Cond.selects RX4 yX4_asks yX4_asks ∈ WS := pv_in 27 (by decide +kernel) (by decide +kernel)
set_option maxRecDepth 100000 in
theorem wo_X4_dig : Cond.code yX4_dig cX4_dig 4 (some .int) ∈ WS := tb_in 1005 (by decide +kernel) (by decide +kernel)
set_option maxRecDepth 100000 in
theorem wi_X4_dig : Cond.instanceMethod yX4_dig ∈ WS := tb_in 1003 (by decide +kernel) (by decide +kernel)
set_option maxRecDepth 100000 in
theorem wsl_X4_dig : Cond.selects RX4 yX4_dig yX4_dig ∈ WS := tb_in 1004 (by decide +kernel) (by decide +kernel)
set_option maxRecDepth 100000 in
theorem wo_X4_sink : Cond.code yX4_sink cX4_sink 4 (some .int) ∈ WS := tb_in 1052 (by decide +kernel) (by decide +kernel)
set_option maxRecDepth 100000 in
theorem wi_X4_sink : Cond.instanceMethod yX4_sink ∈ WS := tb_in 1050 (by decide +kernel) (by decide +kernel)
set_option maxRecDepth 100000 in
theorem wsl_X4_sink : Cond.selects RX4 yX4_sink yX4_sink ∈ WS := tb_in 1051 (by decide +kernel) (by decide +kernel)
set_option maxRecDepth 100000 in
theorem wo_X4_prop : Cond.code yX4_prop cX4_prop 4 none ∈ WS := tb_in 1056 (by decide +kernel) (by decide +kernel)
set_option maxRecDepth 100000 in
theorem wi_X4_prop : Cond.instanceMethod yX4_prop ∈ WS := tb_in 1054 (by decide +kernel) (by decide +kernel)
set_option maxRecDepth 100000 in
theorem wsl_X4_prop : Cond.selects RX4 yX4_prop yX4_prop ∈ WS := tb_in 1055 (by decide +kernel) (by decide +kernel)
set_option maxRecDepth 100000 in
theorem wo_X4_trapsOf : Cond.code yX4_trapsOf cX4_trapsOf 4 (some .int) ∈ WS := tb_in 1064 (by decide +kernel) (by decide +kernel)
set_option maxRecDepth 100000 in
theorem wi_X4_trapsOf : Cond.instanceMethod yX4_trapsOf ∈ WS := tb_in 1063 (by decide +kernel) (by decide +kernel)
set_option maxRecDepth 100000 in
theorem wsl_X4_trapsOf : Cond.selects RX4 yX4_trapsOf yX4_trapsOf ∈ WS := pv_in 37 (by decide +kernel) (by decide +kernel)
set_option maxRecDepth 100000 in
theorem wo_X4_trap : Cond.code yX4_trap cX4_trap 4 (some .int) ∈ WS := tb_in 1060 (by decide +kernel) (by decide +kernel)
set_option maxRecDepth 100000 in
theorem wi_X4_trap : Cond.instanceMethod yX4_trap ∈ WS := tb_in 1058 (by decide +kernel) (by decide +kernel)
set_option maxRecDepth 100000 in
theorem wsl_X4_trap : Cond.selects RX4 yX4_trap yX4_trap ∈ WS := tb_in 1059 (by decide +kernel) (by decide +kernel)
set_option maxRecDepth 100000 in
theorem wo_X4_isNight : Cond.code yX4_isNight cX4_isNight 2 (some .boolean) ∈ WS := tb_in 1076 (by decide +kernel) (by decide +kernel)
set_option maxRecDepth 100000 in
theorem wi_X4_isNight : Cond.instanceMethod yX4_isNight ∈ WS := tb_in 1075 (by decide +kernel) (by decide +kernel)
set_option maxRecDepth 100000 in
theorem wsl_X4_isNight : Cond.selects RX4 yX4_isNight yX4_isNight ∈ WS := pv_in 39 (by decide +kernel) (by decide +kernel)
set_option maxRecDepth 100000 in
theorem wo_X4_canRat : Cond.code yX4_canRat cX4_canRat 5 (some .boolean) ∈ WS := tb_in 1072 (by decide +kernel) (by decide +kernel)
set_option maxRecDepth 100000 in
theorem wi_X4_canRat : Cond.instanceMethod yX4_canRat ∈ WS := tb_in 1071 (by decide +kernel) (by decide +kernel)
set_option maxRecDepth 100000 in
theorem wsl_X4_canRat : Cond.selects RX4 yX4_canRat yX4_canRat ∈ WS := pv_in 38 (by decide +kernel) (by decide +kernel)
set_option maxRecDepth 100000 in
theorem wo_X4_rat : Cond.code yX4_rat cX4_rat 3 (some .int) ∈ WS := tb_in 1068 (by decide +kernel) (by decide +kernel)
set_option maxRecDepth 100000 in
theorem wi_X4_rat : Cond.instanceMethod yX4_rat ∈ WS := tb_in 1066 (by decide +kernel) (by decide +kernel)
set_option maxRecDepth 100000 in
theorem wsl_X4_rat : Cond.selects RX4 yX4_rat yX4_rat ∈ WS := tb_in 1067 (by decide +kernel) (by decide +kernel)
set_option maxRecDepth 100000 in
theorem wo_X4_isIn : Cond.code yX4_isIn cX4_isIn 3 (some .boolean) ∈ WS := tb_in 1088 (by decide +kernel) (by decide +kernel)
set_option maxRecDepth 100000 in
theorem wi_X4_isIn : Cond.instanceMethod yX4_isIn ∈ WS := tb_in 1087 (by decide +kernel) (by decide +kernel)
set_option maxRecDepth 100000 in
theorem wsl_X4_isIn : Cond.selects RX4 yX4_isIn yX4_isIn ∈ WS := pv_in 41 (by decide +kernel) (by decide +kernel)
set_option maxRecDepth 100000 in
theorem wo_X4_parcel : Cond.code yX4_parcel cX4_parcel 4 (some .int) ∈ WS := tb_in 1084 (by decide +kernel) (by decide +kernel)
set_option maxRecDepth 100000 in
theorem wi_X4_parcel : Cond.instanceMethod yX4_parcel ∈ WS := tb_in 1083 (by decide +kernel) (by decide +kernel)
set_option maxRecDepth 100000 in
theorem wsl_X4_parcel : Cond.selects RX4 yX4_parcel yX4_parcel ∈ WS := pv_in 40 (by decide +kernel) (by decide +kernel)
set_option maxRecDepth 100000 in
theorem wo_X4_greatest : Cond.code yX4_greatest cX4_greatest 4 (some .int) ∈ WS := tb_in 1092 (by decide +kernel) (by decide +kernel)
set_option maxRecDepth 100000 in
theorem wi_X4_greatest : Cond.instanceMethod yX4_greatest ∈ WS := tb_in 1091 (by decide +kernel) (by decide +kernel)
set_option maxRecDepth 100000 in
theorem wsl_X4_greatest : Cond.selects RX4 yX4_greatest yX4_greatest ∈ WS := pv_in 42 (by decide +kernel) (by decide +kernel)
set_option maxRecDepth 100000 in
theorem wo_X4_next : Cond.code yX4_next cX4_next 7 (some .int) ∈ WS := tb_in 1096 (by decide +kernel) (by decide +kernel)
set_option maxRecDepth 100000 in
theorem wi_X4_next : Cond.instanceMethod yX4_next ∈ WS := tb_in 1095 (by decide +kernel) (by decide +kernel)
set_option maxRecDepth 100000 in
theorem wsl_X4_next : Cond.selects RX4 yX4_next yX4_next ∈ WS := pv_in 43 (by decide +kernel) (by decide +kernel)
set_option maxRecDepth 100000 in
theorem wo_X4_divide : Cond.code yX4_divide cX4_divide 7 (some .int) ∈ WS := tb_in 1080 (by decide +kernel) (by decide +kernel)
set_option maxRecDepth 100000 in
theorem wi_X4_divide : Cond.instanceMethod yX4_divide ∈ WS := tb_in 1078 (by decide +kernel) (by decide +kernel)
set_option maxRecDepth 100000 in
theorem wsl_X4_divide : Cond.selects RX4 yX4_divide yX4_divide ∈ WS := tb_in 1079 (by decide +kernel) (by decide +kernel)
set_option maxRecDepth 100000 in
theorem wo_X4_isInParcel : Cond.code yX4_isInParcel cX4_isInParcel 2 (some .boolean) ∈ WS := tb_in 1108 (by decide +kernel) (by decide +kernel)
set_option maxRecDepth 100000 in
theorem wi_X4_isInParcel : Cond.instanceMethod yX4_isInParcel ∈ WS := tb_in 1107 (by decide +kernel) (by decide +kernel)
set_option maxRecDepth 100000 in
theorem wsl_X4_isInParcel : Cond.selects RX4 yX4_isInParcel yX4_isInParcel ∈ WS := pv_in 45 (by decide +kernel) (by decide +kernel)
set_option maxRecDepth 100000 in
theorem wo_X4_looks : Cond.code yX4_looks cX4_looks 2 (some .int) ∈ WS := tb_in 1112 (by decide +kernel) (by decide +kernel)
set_option maxRecDepth 100000 in
theorem wi_X4_looks : Cond.instanceMethod yX4_looks ∈ WS := tb_in 1111 (by decide +kernel) (by decide +kernel)
set_option maxRecDepth 100000 in
theorem wsl_X4_looks : Cond.selects RX4 yX4_looks yX4_looks ∈ WS := pv_in 46 (by decide +kernel) (by decide +kernel)
set_option maxRecDepth 100000 in
theorem wo_X4_rub : Cond.code yX4_rub cX4_rub 3 (some .int) ∈ WS := tb_in 1100 (by decide +kernel) (by decide +kernel)
set_option maxRecDepth 100000 in
theorem wi_X4_rub : Cond.instanceMethod yX4_rub ∈ WS := tb_in 1098 (by decide +kernel) (by decide +kernel)
set_option maxRecDepth 100000 in
theorem wsl_X4_rub : Cond.selects RX4 yX4_rub yX4_rub ∈ WS := tb_in 1099 (by decide +kernel) (by decide +kernel)
set_option maxRecDepth 100000 in
theorem wo_X4_isBuyer : Cond.code yX4_isBuyer cX4_isBuyer 1 (some .boolean) ∈ WS := tb_in 1119 (by decide +kernel) (by decide +kernel)
set_option maxRecDepth 100000 in
theorem wst_X4_isBuyer : Cond.static yX4_isBuyer ∈ WS := tb_in 1118 (by decide +kernel) (by decide +kernel)
set_option maxRecDepth 100000 in
theorem wo_X4_bid : Cond.code yX4_bid cX4_bid 4 (some .int) ∈ WS := tb_in 1116 (by decide +kernel) (by decide +kernel)
set_option maxRecDepth 100000 in
theorem wi_X4_bid : Cond.instanceMethod yX4_bid ∈ WS := tb_in 1114 (by decide +kernel) (by decide +kernel)
set_option maxRecDepth 100000 in
theorem wsl_X4_bid : Cond.selects RX4 yX4_bid yX4_bid ∈ WS := tb_in 1115 (by decide +kernel) (by decide +kernel)
set_option maxRecDepth 100000 in
theorem wo_X4_highest : Cond.code yX4_highest cX4_highest 7 (some .int) ∈ WS := tb_in 1128 (by decide +kernel) (by decide +kernel)
set_option maxRecDepth 100000 in
theorem wi_X4_highest : Cond.instanceMethod yX4_highest ∈ WS := tb_in 1127 (by decide +kernel) (by decide +kernel)
set_option maxRecDepth 100000 in
theorem wsl_X4_highest : Cond.selects RX4 yX4_highest yX4_highest ∈ WS := pv_in 47 (by decide +kernel) (by decide +kernel)
set_option maxRecDepth 100000 in
theorem wo_X4_sell : Cond.code yX4_sell cX4_sell 4 (some .int) ∈ WS := tb_in 1124 (by decide +kernel) (by decide +kernel)
set_option maxRecDepth 100000 in
theorem wi_X4_sell : Cond.instanceMethod yX4_sell ∈ WS := tb_in 1122 (by decide +kernel) (by decide +kernel)
set_option maxRecDepth 100000 in
theorem wsl_X4_sell : Cond.selects RX4 yX4_sell yX4_sell ∈ WS := tb_in 1123 (by decide +kernel) (by decide +kernel)
set_option maxRecDepth 100000 in
theorem wo_X4_hour : Cond.code yX4_hour cX4_hour 1 (some .int) ∈ WS := tb_in 1132 (by decide +kernel) (by decide +kernel)
set_option maxRecDepth 100000 in
theorem wi_X4_hour : Cond.instanceMethod yX4_hour ∈ WS := tb_in 1130 (by decide +kernel) (by decide +kernel)
set_option maxRecDepth 100000 in
theorem wsl_X4_hour : Cond.selects RX4 yX4_hour yX4_hour ∈ WS := tb_in 1131 (by decide +kernel) (by decide +kernel)
set_option maxRecDepth 100000 in
theorem wo_X4_bore : Cond.code yX4_bore cX4_bore 5 (some .int) ∈ WS := tb_in 1136 (by decide +kernel) (by decide +kernel)
set_option maxRecDepth 100000 in
theorem wi_X4_bore : Cond.instanceMethod yX4_bore ∈ WS := tb_in 1134 (by decide +kernel) (by decide +kernel)
set_option maxRecDepth 100000 in
theorem wsl_X4_bore : Cond.selects RX4 yX4_bore yX4_bore ∈ WS := tb_in 1135 (by decide +kernel) (by decide +kernel)
set_option maxRecDepth 100000 in
theorem wo_X4_ofCell : Cond.code yX4_ofCell cX4_ofCell 3 (some .int) ∈ WS := tb_in 1140 (by decide +kernel) (by decide +kernel)
set_option maxRecDepth 100000 in
theorem wi_X4_ofCell : Cond.instanceMethod yX4_ofCell ∈ WS := tb_in 1138 (by decide +kernel) (by decide +kernel)
set_option maxRecDepth 100000 in
theorem wsl_X4_ofCell : Cond.selects RX4 yX4_ofCell yX4_ofCell ∈ WS := tb_in 1139 (by decide +kernel) (by decide +kernel)
set_option maxRecDepth 100000 in
theorem wo_X4_held : Cond.code yX4_held cX4_held 4 (some .int) ∈ WS := tb_in 1148 (by decide +kernel) (by decide +kernel)
set_option maxRecDepth 100000 in
theorem wi_X4_held : Cond.instanceMethod yX4_held ∈ WS := tb_in 1147 (by decide +kernel) (by decide +kernel)
set_option maxRecDepth 100000 in
theorem wsl_X4_held : Cond.selects RX4 yX4_held yX4_held ∈ WS := pv_in 48 (by decide +kernel) (by decide +kernel)
set_option maxRecDepth 100000 in
theorem wo_X4_ofClaim : Cond.code yX4_ofClaim cX4_ofClaim 3 (some .int) ∈ WS := tb_in 1144 (by decide +kernel) (by decide +kernel)
set_option maxRecDepth 100000 in
theorem wi_X4_ofClaim : Cond.instanceMethod yX4_ofClaim ∈ WS := tb_in 1142 (by decide +kernel) (by decide +kernel)
set_option maxRecDepth 100000 in
theorem wsl_X4_ofClaim : Cond.selects RX4 yX4_ofClaim yX4_ofClaim ∈ WS := tb_in 1143 (by decide +kernel) (by decide +kernel)
set_option maxRecDepth 100000 in
theorem wo_X4_share : Cond.code yX4_share cX4_share 3 (some .int) ∈ WS := tb_in 1152 (by decide +kernel) (by decide +kernel)
set_option maxRecDepth 100000 in
theorem wi_X4_share : Cond.instanceMethod yX4_share ∈ WS := tb_in 1150 (by decide +kernel) (by decide +kernel)
set_option maxRecDepth 100000 in
theorem wsl_X4_share : Cond.selects RX4 yX4_share yX4_share ∈ WS := tb_in 1151 (by decide +kernel) (by decide +kernel)
set_option maxRecDepth 100000 in
theorem wo_X4_meet : Cond.code yX4_meet cX4_meet 5 (some .boolean) ∈ WS := tb_in 1160 (by decide +kernel) (by decide +kernel)
set_option maxRecDepth 100000 in
theorem wi_X4_meet : Cond.instanceMethod yX4_meet ∈ WS := tb_in 1159 (by decide +kernel) (by decide +kernel)
set_option maxRecDepth 100000 in
theorem wsl_X4_meet : Cond.selects RX4 yX4_meet yX4_meet ∈ WS := pv_in 49 (by decide +kernel) (by decide +kernel)
set_option maxRecDepth 100000 in
theorem wo_X4_verdict : Cond.code yX4_verdict cX4_verdict 5 (some .int) ∈ WS := tb_in 1156 (by decide +kernel) (by decide +kernel)
set_option maxRecDepth 100000 in
theorem wi_X4_verdict : Cond.instanceMethod yX4_verdict ∈ WS := tb_in 1154 (by decide +kernel) (by decide +kernel)
set_option maxRecDepth 100000 in
theorem wsl_X4_verdict : Cond.selects RX4 yX4_verdict yX4_verdict ∈ WS := tb_in 1155 (by decide +kernel) (by decide +kernel)
set_option maxRecDepth 100000 in
theorem wo_X4_stonesOf : Cond.code yX4_stonesOf cX4_stonesOf 4 (some .int) ∈ WS := tb_in 1168 (by decide +kernel) (by decide +kernel)
set_option maxRecDepth 100000 in
theorem wi_X4_stonesOf : Cond.instanceMethod yX4_stonesOf ∈ WS := tb_in 1167 (by decide +kernel) (by decide +kernel)
set_option maxRecDepth 100000 in
theorem wsl_X4_stonesOf : Cond.selects RX4 yX4_stonesOf yX4_stonesOf ∈ WS := pv_in 50 (by decide +kernel) (by decide +kernel)
set_option maxRecDepth 100000 in
theorem wo_X4_ofPerson : Cond.code yX4_ofPerson cX4_ofPerson 3 (some .int) ∈ WS := tb_in 1164 (by decide +kernel) (by decide +kernel)
set_option maxRecDepth 100000 in
theorem wi_X4_ofPerson : Cond.instanceMethod yX4_ofPerson ∈ WS := tb_in 1162 (by decide +kernel) (by decide +kernel)
set_option maxRecDepth 100000 in
theorem wsl_X4_ofPerson : Cond.selects RX4 yX4_ofPerson yX4_ofPerson ∈ WS := tb_in 1163 (by decide +kernel) (by decide +kernel)
set_option maxRecDepth 100000 in
theorem wo_X4_value : Cond.code yX4_value cX4_value 2 (some .int) ∈ WS := tb_in 1176 (by decide +kernel) (by decide +kernel)
set_option maxRecDepth 100000 in
theorem wi_X4_value : Cond.instanceMethod yX4_value ∈ WS := tb_in 1175 (by decide +kernel) (by decide +kernel)
set_option maxRecDepth 100000 in
theorem wsl_X4_value : Cond.selects RX4 yX4_value yX4_value ∈ WS := pv_in 51 (by decide +kernel) (by decide +kernel)
set_option maxRecDepth 100000 in
theorem wo_X4_ofStone : Cond.code yX4_ofStone cX4_ofStone 3 (some .int) ∈ WS := tb_in 1172 (by decide +kernel) (by decide +kernel)
set_option maxRecDepth 100000 in
theorem wi_X4_ofStone : Cond.instanceMethod yX4_ofStone ∈ WS := tb_in 1170 (by decide +kernel) (by decide +kernel)
set_option maxRecDepth 100000 in
theorem wsl_X4_ofStone : Cond.selects RX4 yX4_ofStone yX4_ofStone ∈ WS := tb_in 1171 (by decide +kernel) (by decide +kernel)
set_option maxRecDepth 100000 in
theorem wo_X4_purse : Cond.code yX4_purse cX4_purse 2 (some .int) ∈ WS := tb_in 1180 (by decide +kernel) (by decide +kernel)
set_option maxRecDepth 100000 in
theorem wi_X4_purse : Cond.instanceMethod yX4_purse ∈ WS := tb_in 1178 (by decide +kernel) (by decide +kernel)
set_option maxRecDepth 100000 in
theorem wsl_X4_purse : Cond.selects RX4 yX4_purse yX4_purse ∈ WS := tb_in 1179 (by decide +kernel) (by decide +kernel)
set_option maxRecDepth 100000 in
theorem wo_X4_weighed : Cond.code yX4_weighed cX4_weighed 5 (some .int) ∈ WS := tb_in 1188 (by decide +kernel) (by decide +kernel)
set_option maxRecDepth 100000 in
theorem wi_X4_weighed : Cond.instanceMethod yX4_weighed ∈ WS := tb_in 1187 (by decide +kernel) (by decide +kernel)
set_option maxRecDepth 100000 in
theorem wsl_X4_weighed : Cond.selects RX4 yX4_weighed yX4_weighed ∈ WS := pv_in 52 (by decide +kernel) (by decide +kernel)
set_option maxRecDepth 100000 in
theorem wo_X4_carats : Cond.code yX4_carats cX4_carats 4 (some .int) ∈ WS := tb_in 1184 (by decide +kernel) (by decide +kernel)
set_option maxRecDepth 100000 in
theorem wi_X4_carats : Cond.instanceMethod yX4_carats ∈ WS := tb_in 1182 (by decide +kernel) (by decide +kernel)
set_option maxRecDepth 100000 in
theorem wsl_X4_carats : Cond.selects RX4 yX4_carats yX4_carats ∈ WS := tb_in 1183 (by decide +kernel) (by decide +kernel)
set_option maxRecDepth 100000 in
theorem wo_X4_canPlan : Cond.code yX4_canPlan cX4_canPlan 5 (some .boolean) ∈ WS := tb_in 1200 (by decide +kernel) (by decide +kernel)
set_option maxRecDepth 100000 in
theorem wi_X4_canPlan : Cond.instanceMethod yX4_canPlan ∈ WS := tb_in 1199 (by decide +kernel) (by decide +kernel)
set_option maxRecDepth 100000 in
theorem wsl_X4_canPlan : Cond.selects RX4 yX4_canPlan yX4_canPlan ∈ WS := pv_in 54 (by decide +kernel) (by decide +kernel)
set_option maxRecDepth 100000 in
theorem wo_X4_digsOne : Cond.code yX4_digsOne cX4_digsOne 4 (some .int) ∈ WS := tb_in 1196 (by decide +kernel) (by decide +kernel)
set_option maxRecDepth 100000 in
theorem wi_X4_digsOne : Cond.instanceMethod yX4_digsOne ∈ WS := tb_in 1195 (by decide +kernel) (by decide +kernel)
set_option maxRecDepth 100000 in
theorem wsl_X4_digsOne : Cond.selects RX4 yX4_digsOne yX4_digsOne ∈ WS := pv_in 53 (by decide +kernel) (by decide +kernel)
set_option maxRecDepth 100000 in
theorem wo_X4_digsTwo : Cond.code yX4_digsTwo cX4_digsTwo 6 (some .int) ∈ WS := tb_in 1208 (by decide +kernel) (by decide +kernel)
set_option maxRecDepth 100000 in
theorem wi_X4_digsTwo : Cond.instanceMethod yX4_digsTwo ∈ WS := tb_in 1207 (by decide +kernel) (by decide +kernel)
set_option maxRecDepth 100000 in
theorem wsl_X4_digsTwo : Cond.selects RX4 yX4_digsTwo yX4_digsTwo ∈ WS := pv_in 56 (by decide +kernel) (by decide +kernel)
set_option maxRecDepth 100000 in
theorem wo_X4_digsThree : Cond.code yX4_digsThree cX4_digsThree 6 (some .int) ∈ WS := tb_in 1212 (by decide +kernel) (by decide +kernel)
set_option maxRecDepth 100000 in
theorem wi_X4_digsThree : Cond.instanceMethod yX4_digsThree ∈ WS := tb_in 1211 (by decide +kernel) (by decide +kernel)
set_option maxRecDepth 100000 in
theorem wsl_X4_digsThree : Cond.selects RX4 yX4_digsThree yX4_digsThree ∈ WS := pv_in 57 (by decide +kernel) (by decide +kernel)
set_option maxRecDepth 100000 in
theorem wo_X4_plan : Cond.code yX4_plan cX4_plan 3 (some .int) ∈ WS := tb_in 1192 (by decide +kernel) (by decide +kernel)
set_option maxRecDepth 100000 in
theorem wi_X4_plan : Cond.instanceMethod yX4_plan ∈ WS := tb_in 1190 (by decide +kernel) (by decide +kernel)
set_option maxRecDepth 100000 in
theorem wsl_X4_plan : Cond.selects RX4 yX4_plan yX4_plan ∈ WS := tb_in 1191 (by decide +kernel) (by decide +kernel)
set_option maxRecDepth 100000 in
theorem wo_X4_planAnew : Cond.code yX4_planAnew cX4_planAnew 3 (some .int) ∈ WS := tb_in 1216 (by decide +kernel) (by decide +kernel)
set_option maxRecDepth 100000 in
theorem wi_X4_planAnew : Cond.instanceMethod yX4_planAnew ∈ WS := tb_in 1214 (by decide +kernel) (by decide +kernel)
set_option maxRecDepth 100000 in
theorem wsl_X4_planAnew : Cond.selects RX4 yX4_planAnew yX4_planAnew ∈ WS := tb_in 1215 (by decide +kernel) (by decide +kernel)
set_option maxRecDepth 100000 in
theorem wo_J9_max_7cf53 : Cond.code yJ9_max_7cf53 cJ9_max_7cf53 2 (some .int) ∈ WS := tb_in 282 (by decide +kernel) (by decide +kernel)
set_option maxRecDepth 100000 in
theorem wst_J9_max_7cf53 : Cond.static yJ9_max_7cf53 ∈ WS := tb_in 281 (by decide +kernel) (by decide +kernel)
set_option maxRecDepth 100000 in
theorem wo_J9_min_7cf53 : Cond.code yJ9_min_7cf53 cJ9_min_7cf53 2 (some .int) ∈ WS := tb_in 375 (by decide +kernel) (by decide +kernel)
set_option maxRecDepth 100000 in
theorem wst_J9_min_7cf53 : Cond.static yJ9_min_7cf53 ∈ WS := tb_in 374 (by decide +kernel) (by decide +kernel)
set_option maxRecDepth 100000 in
theorem wo_Jxa1e45_init_da8c8 : Cond.code yJxa1e45_init_da8c8 cJxa1e45_init_da8c8 1 none ∈ WS := tb_in 75 (by decide +kernel) (by decide +kernel)
set_option maxRecDepth 100000 in
theorem wi_Jxa1e45_init_da8c8 : Cond.instanceMethod yJxa1e45_init_da8c8 ∈ WS := tb_in 74 (by decide +kernel) (by decide +kernel)
set_option maxRecDepth 100000 in
theorem wo_Jxc12de_init_da8c8 : Cond.code yJxc12de_init_da8c8 cJxc12de_init_da8c8 1 none ∈ WS := tb_in 72 (by decide +kernel) (by decide +kernel)
set_option maxRecDepth 100000 in
theorem wi_Jxc12de_init_da8c8 : Cond.instanceMethod yJxc12de_init_da8c8 ∈ WS := tb_in 71 (by decide +kernel) (by decide +kernel)
set_option maxRecDepth 100000 in
theorem wo_Jx4a65c_init_da8c8 : Cond.code yJx4a65c_init_da8c8 cJx4a65c_init_da8c8 1 none ∈ WS := tb_in 69 (by decide +kernel) (by decide +kernel)
set_option maxRecDepth 100000 in
theorem wi_Jx4a65c_init_da8c8 : Cond.instanceMethod yJx4a65c_init_da8c8 ∈ WS := tb_in 68 (by decide +kernel) (by decide +kernel)
set_option maxRecDepth 100000 in
theorem wo_Jx4a65c_grow_92f84 : Cond.code yJx4a65c_grow_92f84 cJx4a65c_grow_92f84 4 (some (.array (.object "java/lang/Object"))) ∈ WS := tb_in 342 (by decide +kernel) (by decide +kernel)
set_option maxRecDepth 100000 in
theorem wi_Jx4a65c_grow_92f84 : Cond.instanceMethod yJx4a65c_grow_92f84 ∈ WS := tb_in 341 (by decide +kernel) (by decide +kernel)
set_option maxRecDepth 100000 in
theorem wsl_Jx4a65c_grow_92f84 : Cond.selects RJx4a65c yJx4a65c_grow_92f84 yJx4a65c_grow_92f84 ∈ WS := pv_in 5 (by decide +kernel) (by decide +kernel)
set_option maxRecDepth 100000 in
theorem wo_Jx4a65c_grow_d5877 : Cond.code yJx4a65c_grow_d5877 cJx4a65c_grow_d5877 1 (some (.array (.object "java/lang/Object"))) ∈ WS := tb_in 338 (by decide +kernel) (by decide +kernel)
set_option maxRecDepth 100000 in
theorem wi_Jx4a65c_grow_d5877 : Cond.instanceMethod yJx4a65c_grow_d5877 ∈ WS := tb_in 337 (by decide +kernel) (by decide +kernel)
set_option maxRecDepth 100000 in
theorem wsl_Jx4a65c_grow_d5877 : Cond.selects RJx4a65c yJx4a65c_grow_d5877 yJx4a65c_grow_d5877 ∈ WS := pv_in 4 (by decide +kernel) (by decide +kernel)
set_option maxRecDepth 100000 in
theorem wo_Jx4a65c_size_8abf5 : Cond.code yJx4a65c_size_8abf5 cJx4a65c_size_8abf5 1 (some .int) ∈ WS := tb_in 270 (by decide +kernel) (by decide +kernel)
set_option maxRecDepth 100000 in
theorem wi_Jx4a65c_size_8abf5 : Cond.instanceMethod yJx4a65c_size_8abf5 ∈ WS := tb_in 268 (by decide +kernel) (by decide +kernel)
set_option maxRecDepth 100000 in
theorem wsl_Jx4a65c_size_8abf5 : Cond.selects RJx4a65c yJx4a65c_size_8abf5 yJx4a65c_size_8abf5 ∈ WS := tb_in 269 (by decide +kernel) (by decide +kernel)
set_option maxRecDepth 100000 in
theorem wo_Jx4a65c_elementData_915e3 : Cond.code yJx4a65c_elementData_915e3 cJx4a65c_elementData_915e3 2 (some (.object "java/lang/Object")) ∈ WS := tb_in 406 (by decide +kernel) (by decide +kernel)
set_option maxRecDepth 100000 in
theorem wi_Jx4a65c_elementData_915e3 : Cond.instanceMethod yJx4a65c_elementData_915e3 ∈ WS := tb_in 404 (by decide +kernel) (by decide +kernel)
set_option maxRecDepth 100000 in
theorem wsl_Jx4a65c_elementData_915e3 : Cond.selects RJx4a65c yJx4a65c_elementData_915e3 yJx4a65c_elementData_915e3 ∈ WS := tb_in 405 (by decide +kernel) (by decide +kernel)
set_option maxRecDepth 100000 in
theorem wo_Jx4a65c_get_915e3 : Cond.code yJx4a65c_get_915e3 cJx4a65c_get_915e3 2 (some (.object "java/lang/Object")) ∈ WS := tb_in 396 (by decide +kernel) (by decide +kernel)
set_option maxRecDepth 100000 in
theorem wi_Jx4a65c_get_915e3 : Cond.instanceMethod yJx4a65c_get_915e3 ∈ WS := tb_in 394 (by decide +kernel) (by decide +kernel)
set_option maxRecDepth 100000 in
theorem wsl_Jx4a65c_get_915e3 : Cond.selects RJx4a65c yJx4a65c_get_915e3 yJx4a65c_get_915e3 ∈ WS := tb_in 395 (by decide +kernel) (by decide +kernel)
set_option maxRecDepth 100000 in
theorem wo_Jx4a65c_add_72be8 : Cond.code yJx4a65c_add_72be8 cJx4a65c_add_72be8 4 none ∈ WS := tb_in 334 (by decide +kernel) (by decide +kernel)
set_option maxRecDepth 100000 in
theorem wi_Jx4a65c_add_72be8 : Cond.instanceMethod yJx4a65c_add_72be8 ∈ WS := tb_in 333 (by decide +kernel) (by decide +kernel)
set_option maxRecDepth 100000 in
theorem wsl_Jx4a65c_add_72be8 : Cond.selects RJx4a65c yJx4a65c_add_72be8 yJx4a65c_add_72be8 ∈ WS := pv_in 3 (by decide +kernel) (by decide +kernel)
set_option maxRecDepth 100000 in
theorem wo_Jx4a65c_add_9ea2d : Cond.code yJx4a65c_add_9ea2d cJx4a65c_add_9ea2d 2 (some .boolean) ∈ WS := tb_in 330 (by decide +kernel) (by decide +kernel)
set_option maxRecDepth 100000 in
theorem wi_Jx4a65c_add_9ea2d : Cond.instanceMethod yJx4a65c_add_9ea2d ∈ WS := tb_in 328 (by decide +kernel) (by decide +kernel)
set_option maxRecDepth 100000 in
theorem wsl_Jx4a65c_add_9ea2d : Cond.selects RJx4a65c yJx4a65c_add_9ea2d yJx4a65c_add_9ea2d ∈ WS := tb_in 329 (by decide +kernel) (by decide +kernel)
set_option maxRecDepth 100000 in
theorem wo_J7_fill_53178 : Cond.code yJ7_fill_53178 cJ7_fill_53178 4 none ∈ WS := tb_in 37 (by decide +kernel) (by decide +kernel)
set_option maxRecDepth 100000 in
theorem wst_J7_fill_53178 : Cond.static yJ7_fill_53178 ∈ WS := tb_in 36 (by decide +kernel) (by decide +kernel)
set_option maxRecDepth 100000 in
theorem wo_J7_copyOf_1904c : Cond.code yJ7_copyOf_1904c cJ7_copyOf_1904c 2 (some (.array (.object "java/lang/Object"))) ∈ WS := tb_in 353 (by decide +kernel) (by decide +kernel)
set_option maxRecDepth 100000 in
theorem wst_J7_copyOf_1904c : Cond.static yJ7_copyOf_1904c ∈ WS := tb_in 352 (by decide +kernel) (by decide +kernel)
set_option maxRecDepth 100000 in
theorem wo_J7_copyOf_6403c : Cond.code yJ7_copyOf_6403c cJ7_copyOf_6403c 4 (some (.array (.object "java/lang/Object"))) ∈ WS := tb_in 369 (by decide +kernel) (by decide +kernel)
set_option maxRecDepth 100000 in
theorem wst_J7_copyOf_6403c : Cond.static yJ7_copyOf_6403c ∈ WS := tb_in 368 (by decide +kernel) (by decide +kernel)
set_option maxRecDepth 100000 in
theorem wo_J15_checkIndex_7cf53 : Cond.code yJ15_checkIndex_7cf53 cJ15_checkIndex_7cf53 2 (some .int) ∈ WS := tb_in 399 (by decide +kernel) (by decide +kernel)
set_option maxRecDepth 100000 in
theorem wst_J15_checkIndex_7cf53 : Cond.static yJ15_checkIndex_7cf53 ∈ WS := tb_in 398 (by decide +kernel) (by decide +kernel)
set_option maxRecDepth 100000 in
theorem wo_J8_newLength_cabcc : Cond.code yJ8_newLength_cabcc cJ8_newLength_cabcc 4 (some .int) ∈ WS := tb_in 345 (by decide +kernel) (by decide +kernel)
set_option maxRecDepth 100000 in
theorem wst_J8_newLength_cabcc : Cond.static yJ8_newLength_cabcc ∈ WS := tb_in 344 (by decide +kernel) (by decide +kernel)
set_option maxRecDepth 100000 in
theorem wo_J8_hugeLength_7cf53 : Cond.code yJ8_hugeLength_7cf53 cJ8_hugeLength_7cf53 3 (some .int) ∈ WS := tb_in 350 (by decide +kernel) (by decide +kernel)
set_option maxRecDepth 100000 in
theorem wst_J8_hugeLength_7cf53 : Cond.static yJ8_hugeLength_7cf53 ∈ WS := tb_in 349 (by decide +kernel) (by decide +kernel)
set_option maxRecDepth 100000 in
theorem wo_J3_checkIndex_8e157 : Cond.code yJ3_checkIndex_8e157 cJ3_checkIndex_8e157 3 (some .int) ∈ WS := tb_in 402 (by decide +kernel) (by decide +kernel)
set_option maxRecDepth 100000 in
theorem wst_J3_checkIndex_8e157 : Cond.static yJ3_checkIndex_8e157 ∈ WS := tb_in 401 (by decide +kernel) (by decide +kernel)
set_option maxRecDepth 100000 in
theorem wn_X0 : Cond.initialized RX0 ∈ WS := tb_in 15 (by decide +kernel) (by decide +kernel)
set_option maxRecDepth 100000 in
theorem wt_X0 : Cond.instantiable RX0 10 ∈ WS := tb_in 285 (by decide +kernel) (by decide +kernel)
set_option maxRecDepth 100000 in
theorem wn_X1 : Cond.initialized RX1 ∈ WS := tb_in 2 (by decide +kernel) (by decide +kernel)
set_option maxRecDepth 100000 in
theorem wt_X1 : Cond.instantiable RX1 6 ∈ WS := tb_in 30 (by decide +kernel) (by decide +kernel)
set_option maxRecDepth 100000 in
theorem wn_X2 : Cond.initialized RX2 ∈ WS := tb_in 20 (by decide +kernel) (by decide +kernel)
set_option maxRecDepth 100000 in
theorem wt_X2 : Cond.instantiable RX2 11 ∈ WS := tb_in 481 (by decide +kernel) (by decide +kernel)
set_option maxRecDepth 100000 in
theorem wn_X3 : Cond.initialized RX3 ∈ WS := tb_in 1 (by decide +kernel) (by decide +kernel)
set_option maxRecDepth 100000 in
theorem wt_X3 : Cond.instantiable RX3 10 ∈ WS := tb_in 22 (by decide +kernel) (by decide +kernel)
set_option maxRecDepth 100000 in
theorem wn_X4 : Cond.initialized RX4 ∈ WS := tb_in 7 (by decide +kernel) (by decide +kernel)
set_option maxRecDepth 100000 in
theorem wt_X4 : Cond.instantiable RX4 37 ∈ WS := tb_in 828 (by decide +kernel) (by decide +kernel)
set_option maxRecDepth 100000 in
theorem wn_J9 : Cond.initialized RJ9 ∈ WS := tb_in 14 (by decide +kernel) (by decide +kernel)
set_option maxRecDepth 100000 in
theorem wn_J10 : Cond.initialized RJ10 ∈ WS := tb_in 17 (by decide +kernel) (by decide +kernel)
set_option maxRecDepth 100000 in
theorem wn_Jxa1e45 : Cond.initialized RJxa1e45 ∈ WS := tb_in 4 (by decide +kernel) (by decide +kernel)
set_option maxRecDepth 100000 in
theorem wn_Jxc12de : Cond.initialized RJxc12de ∈ WS := tb_in 5 (by decide +kernel) (by decide +kernel)
set_option maxRecDepth 100000 in
theorem wn_Jx4a65c : Cond.initialized RJx4a65c ∈ WS := tb_in 6 (by decide +kernel) (by decide +kernel)
set_option maxRecDepth 100000 in
theorem wt_Jx4a65c : Cond.instantiable RJx4a65c 3 ∈ WS := tb_in 66 (by decide +kernel) (by decide +kernel)
set_option maxRecDepth 100000 in
theorem wn_J7 : Cond.initialized RJ7 ∈ WS := tb_in 3 (by decide +kernel) (by decide +kernel)
set_option maxRecDepth 100000 in
theorem wn_J15 : Cond.initialized RJ15 ∈ WS := tb_in 18 (by decide +kernel) (by decide +kernel)
set_option maxRecDepth 100000 in
theorem wn_J8 : Cond.initialized RJ8 ∈ WS := tb_in 16 (by decide +kernel) (by decide +kernel)
set_option maxRecDepth 100000 in
theorem wn_J3 : Cond.initialized RJ3 ∈ WS := tb_in 19 (by decide +kernel) (by decide +kernel)
set_option maxRecDepth 100000 in
theorem wn_L : Cond.initialized RL ∈ WS := tb_in 0 (by decide +kernel) (by decide +kernel)
set_option maxRecDepth 100000 in
theorem wn_IllegalArgumentException : Cond.initialized "java/lang/IllegalArgumentException" ∈ WS := tb_in 12 (by decide +kernel) (by decide +kernel)
set_option maxRecDepth 100000 in
theorem wt_IllegalArgumentException : Cond.instantiable "java/lang/IllegalArgumentException" 6 ∈ WS := tb_in 215 (by decide +kernel) (by decide +kernel)
set_option maxRecDepth 100000 in
theorem wn_IllegalStateException : Cond.initialized "java/lang/IllegalStateException" ∈ WS := tb_in 13 (by decide +kernel) (by decide +kernel)
set_option maxRecDepth 100000 in
theorem wt_IllegalStateException : Cond.instantiable "java/lang/IllegalStateException" 6 ∈ WS := tb_in 231 (by decide +kernel) (by decide +kernel)
set_option maxRecDepth 100000 in
theorem wn_IndexOutOfBoundsException : Cond.initialized "java/lang/IndexOutOfBoundsException" ∈ WS := tb_in 11 (by decide +kernel) (by decide +kernel)
set_option maxRecDepth 100000 in
theorem wt_IndexOutOfBoundsException : Cond.instantiable "java/lang/IndexOutOfBoundsException" 6 ∈ WS := tb_in 144 (by decide +kernel) (by decide +kernel)
set_option maxRecDepth 100000 in
theorem wn_Math : Cond.initialized "java/lang/Math" ∈ WS := tb_in 14 (by decide +kernel) (by decide +kernel)
set_option maxRecDepth 100000 in
theorem wn_System : Cond.initialized "java/lang/System" ∈ WS := tb_in 17 (by decide +kernel) (by decide +kernel)
set_option maxRecDepth 100000 in
theorem wa_int : Cond.arrayClass .int ∈ WS := tb_in 63 (by decide +kernel) (by decide +kernel)
set_option maxRecDepth 100000 in
theorem wa_boolean : Cond.arrayClass .boolean ∈ WS := tb_in 64 (by decide +kernel) (by decide +kernel)
set_option maxRecDepth 100000 in
theorem wa_long : Cond.arrayClass .long ∈ WS := tb_in 1218 (by decide +kernel) (by decide +kernel)
