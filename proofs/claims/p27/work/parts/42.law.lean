/-! law: walks, by program -/
theorem q296 : Cond.methodLink RX3 1 objectInit ∈ gT := gt_2 21 rfl rfl
theorem q35 : Cond.initialized RL ∈ gT := gt_1 0 rfl rfl
theorem q97 : Cond.methodLink RL 327 yX2_knock ∈ gT := gt_1 62 rfl rfl
theorem q98 : Cond.instanceMethod yX2_knock ∈ gT := gt_1 63 rfl rfl
theorem q99 : Cond.selects RX2 yX2_knock yX2_knock ∈ gT := gt_1 64 rfl rfl
theorem q100 : Cond.code yX2_knock cX2_knock 1 (some .int) ∈ gT := gt_1 65 rfl rfl
theorem q101 : Cond.methodLink RL 331 yX2_isSound ∈ gT := gt_1 66 rfl rfl
theorem q187 : Cond.methodLink RL 336 yX2_digest ∈ gT := gt_1 152 rfl rfl
theorem q188 : Cond.instanceMethod yX2_digest ∈ gT := gt_1 153 rfl rfl
theorem q189 : Cond.selects RX2 yX2_digest yX2_digest ∈ gT := gt_1 154 rfl rfl
theorem q190 : Cond.code yX2_digest cX2_digest 4 (some .long) ∈ gT := gt_1 155 rfl rfl
theorem q304 : Cond.methodLink RL 176 yL_add ∈ gT := gt_2 29 rfl rfl
theorem q305 : Cond.static yL_add ∈ gT := gt_2 30 rfl rfl
theorem q306 : Cond.codeWith yL_add cL_add 5 (some .int) [(0, 11, 14, 19), (0, 11, 18, 21)] ∈ gT := gt_2 31 rfl rfl
theorem q355 : Cond.methodLink RL 182 yL_put ∈ gT := gt_2 80 rfl rfl
theorem q356 : Cond.static yL_put ∈ gT := gt_2 81 rfl rfl
theorem q357 : Cond.codeWith yL_put cL_put 6 (some .int) [(0, 13, 16, 19), (0, 13, 20, 21)] ∈ gT := gt_2 82 rfl rfl
theorem q367 : Cond.methodLink RL 186 yL_insert ∈ gT := gt_2 92 rfl rfl
theorem q368 : Cond.static yL_insert ∈ gT := gt_2 93 rfl rfl
theorem q369 : Cond.codeWith yL_insert cL_insert 6 (some .int) [(0, 13, 16, 19), (0, 13, 20, 21)] ∈ gT := gt_2 94 rfl rfl
theorem q374 : Cond.methodLink RL 189 yL_drop ∈ gT := gt_2 99 rfl rfl
theorem q375 : Cond.static yL_drop ∈ gT := gt_2 100 rfl rfl
theorem q376 : Cond.codeWith yL_drop cL_drop 5 (some .int) [(0, 11, 14, 19)] ∈ gT := gt_2 101 rfl rfl
theorem q389 : Cond.methodLink RL 192 yL_clear ∈ gT := gt_2 114 rfl rfl
theorem q390 : Cond.static yL_clear ∈ gT := gt_2 115 rfl rfl
theorem q391 : Cond.codeWith yL_clear cL_clear 4 (some .int) [(0, 10, 13, 19)] ∈ gT := gt_2 116 rfl rfl
theorem q396 : Cond.methodLink RL 196 yL_copy ∈ gT := gt_2 121 rfl rfl
theorem q397 : Cond.static yL_copy ∈ gT := gt_2 122 rfl rfl
theorem q398 : Cond.codeWith yL_copy cL_copy 5 (some .int) [(0, 11, 14, 19)] ∈ gT := gt_2 123 rfl rfl
theorem q407 : Cond.methodLink RL 199 yL_join ∈ gT := gt_2 132 rfl rfl
theorem q408 : Cond.static yL_join ∈ gT := gt_2 133 rfl rfl
theorem q409 : Cond.codeWith yL_join cL_join 5 (some .int) [(0, 11, 14, 19)] ∈ gT := gt_2 134 rfl rfl
theorem q418 : Cond.methodLink RL 202 yL_turn ∈ gT := gt_2 143 rfl rfl
theorem q419 : Cond.static yL_turn ∈ gT := gt_2 144 rfl rfl
theorem q420 : Cond.codeWith yL_turn cL_turn 4 (some .int) [(0, 10, 13, 19)] ∈ gT := gt_2 145 rfl rfl
theorem q429 : Cond.methodLink RL 205 yL_fill ∈ gT := gt_2 154 rfl rfl
theorem q430 : Cond.static yL_fill ∈ gT := gt_2 155 rfl rfl
theorem q431 : Cond.codeWith yL_fill cL_fill 6 (some .int) [(0, 13, 16, 19), (0, 13, 20, 21)] ∈ gT := gt_2 156 rfl rfl
theorem q436 : Cond.methodLink RL 208 yL_cut ∈ gT := gt_2 161 rfl rfl
theorem q437 : Cond.static yL_cut ∈ gT := gt_2 162 rfl rfl
theorem q438 : Cond.codeWith yL_cut cL_cut 6 (some .int) [(0, 13, 16, 19)] ∈ gT := gt_2 163 rfl rfl
theorem q443 : Cond.methodLink RL 211 yL_keep ∈ gT := gt_2 168 rfl rfl
theorem q444 : Cond.static yL_keep ∈ gT := gt_2 169 rfl rfl
theorem q445 : Cond.codeWith yL_keep cL_keep 6 (some .int) [(0, 13, 16, 19), (0, 13, 20, 21)] ∈ gT := gt_2 170 rfl rfl
theorem q457 : Cond.methodLink RL 215 yL_keepKind ∈ gT := gt_2 182 rfl rfl
theorem q458 : Cond.static yL_keepKind ∈ gT := gt_2 183 rfl rfl
theorem q459 : Cond.codeWith yL_keepKind cL_keepKind 6 (some .int) [(0, 13, 16, 19), (0, 13, 20, 21)] ∈ gT := gt_2 184 rfl rfl
theorem q471 : Cond.methodLink RL 218 yL_take ∈ gT := gt_2 196 rfl rfl
theorem q472 : Cond.static yL_take ∈ gT := gt_2 197 rfl rfl
theorem q473 : Cond.codeWith yL_take cL_take 6 (some .int) [(0, 13, 16, 19)] ∈ gT := gt_2 198 rfl rfl
theorem q486 : Cond.methodLink RL 221 yL_mend ∈ gT := gt_2 211 rfl rfl
theorem q487 : Cond.static yL_mend ∈ gT := gt_2 212 rfl rfl
theorem q488 : Cond.codeWith yL_mend cL_mend 4 (some .int) [(0, 10, 13, 19)] ∈ gT := gt_2 213 rfl rfl
theorem q494 : Cond.methodLink RL 224 yL_kind ∈ gT := gt_2 219 rfl rfl
theorem q495 : Cond.static yL_kind ∈ gT := gt_2 220 rfl rfl
theorem q496 : Cond.codeWith yL_kind cL_kind 4 (some .int) [(0, 10, 13, 21)] ∈ gT := gt_2 221 rfl rfl
theorem q501 : Cond.methodLink RL 227 yL_ask ∈ gT := gt_2 226 rfl rfl
theorem q502 : Cond.static yL_ask ∈ gT := gt_2 227 rfl rfl
theorem q503 : Cond.codeWith yL_ask cL_ask 5 (some .int) [(0, 18, 21, 21)] ∈ gT := gt_2 228 rfl rfl
theorem q509 : Cond.methodLink RL 230 yL_all ∈ gT := gt_2 234 rfl rfl
theorem q510 : Cond.static yL_all ∈ gT := gt_2 235 rfl rfl
theorem q511 : Cond.codeWith yL_all cL_all 4 (some .int) [(0, 10, 13, 21)] ∈ gT := gt_2 236 rfl rfl
theorem q516 : Cond.methodLink RL 233 yL_nth ∈ gT := gt_3 1 rfl rfl
theorem q517 : Cond.static yL_nth ∈ gT := gt_3 2 rfl rfl
theorem q518 : Cond.codeWith yL_nth cL_nth 5 (some .int) [(0, 11, 14, 21)] ∈ gT := gt_3 3 rfl rfl
theorem q523 : Cond.methodLink RL 236 yL_next ∈ gT := gt_3 8 rfl rfl
theorem q524 : Cond.static yL_next ∈ gT := gt_3 9 rfl rfl
theorem q525 : Cond.codeWith yL_next cL_next 6 (some .int) [(0, 13, 16, 21)] ∈ gT := gt_3 10 rfl rfl
theorem q530 : Cond.methodLink RL 239 yL_run ∈ gT := gt_3 15 rfl rfl
theorem q531 : Cond.static yL_run ∈ gT := gt_3 16 rfl rfl
theorem q532 : Cond.codeWith yL_run cL_run 5 (some .int) [(0, 11, 14, 21)] ∈ gT := gt_3 17 rfl rfl
theorem q537 : Cond.methodLink RL 242 yL_ofKind ∈ gT := gt_3 22 rfl rfl
theorem q538 : Cond.static yL_ofKind ∈ gT := gt_3 23 rfl rfl
theorem q539 : Cond.codeWith yL_ofKind cL_ofKind 6 (some .int) [(0, 13, 16, 21)] ∈ gT := gt_3 24 rfl rfl
theorem q547 : Cond.methodLink RL 245 yL_ofQuestion ∈ gT := gt_3 32 rfl rfl
theorem q548 : Cond.static yL_ofQuestion ∈ gT := gt_3 33 rfl rfl
theorem q549 : Cond.codeWith yL_ofQuestion cL_ofQuestion 6 (some .int) [(0, 13, 16, 21)] ∈ gT := gt_3 34 rfl rfl
theorem q554 : Cond.methodLink RL 248 yL_kinds ∈ gT := gt_3 39 rfl rfl
theorem q555 : Cond.static yL_kinds ∈ gT := gt_3 40 rfl rfl
theorem q556 : Cond.codeWith yL_kinds cL_kinds 5 (some .int) [(0, 11, 14, 21)] ∈ gT := gt_3 41 rfl rfl
theorem q561 : Cond.methodLink RL 251 yL_both ∈ gT := gt_3 46 rfl rfl
theorem q562 : Cond.static yL_both ∈ gT := gt_3 47 rfl rfl
theorem q563 : Cond.codeWith yL_both cL_both 5 (some .int) [(0, 11, 14, 21)] ∈ gT := gt_3 48 rfl rfl
theorem q568 : Cond.methodLink RL 254 yL_within ∈ gT := gt_3 53 rfl rfl
theorem q569 : Cond.static yL_within ∈ gT := gt_3 54 rfl rfl
theorem q570 : Cond.codeWith yL_within cL_within 5 (some .int) [(0, 18, 21, 21)] ∈ gT := gt_3 55 rfl rfl
theorem q575 : Cond.methodLink RL 257 yL_differ ∈ gT := gt_3 60 rfl rfl
theorem q576 : Cond.static yL_differ ∈ gT := gt_3 61 rfl rfl
theorem q577 : Cond.codeWith yL_differ cL_differ 6 (some .int) [(0, 13, 16, 21)] ∈ gT := gt_3 62 rfl rfl
theorem q582 : Cond.methodLink RL 264 yL_length ∈ gT := gt_3 67 rfl rfl
theorem q583 : Cond.static yL_length ∈ gT := gt_3 68 rfl rfl
theorem q584 : Cond.codeWith yL_length cL_length 4 (some .int) [(0, 10, 13, 19)] ∈ gT := gt_3 69 rfl rfl
theorem q589 : Cond.methodLink RL 267 yL_sign ∈ gT := gt_3 74 rfl rfl
theorem q590 : Cond.static yL_sign ∈ gT := gt_3 75 rfl rfl
theorem q591 : Cond.codeWith yL_sign cL_sign 5 (some .int) [(0, 11, 14, 19)] ∈ gT := gt_3 76 rfl rfl
theorem q596 : Cond.methodLink RL 270 yL_signs ∈ gT := gt_3 81 rfl rfl
theorem q597 : Cond.static yL_signs ∈ gT := gt_3 82 rfl rfl
theorem q598 : Cond.codeWith yL_signs cL_signs 4 (some .int) [(0, 9, 12, 19)] ∈ gT := gt_3 83 rfl rfl
theorem q880 : Cond.methodLink RL 273 yL_kindsOf ∈ gT := gt_4 125 rfl rfl
theorem q881 : Cond.static yL_kindsOf ∈ gT := gt_4 126 rfl rfl
theorem q882 : Cond.codeWith yL_kindsOf cL_kindsOf 4 (some .int) [(0, 9, 12, 19)] ∈ gT := gt_4 127 rfl rfl
theorem q888 : Cond.methodLink RL 276 yL_count ∈ gT := gt_4 133 rfl rfl
theorem q889 : Cond.static yL_count ∈ gT := gt_4 134 rfl rfl
theorem q890 : Cond.codeWith yL_count cL_count 5 (some .int) [(0, 11, 14, 19), (0, 11, 18, 21)] ∈ gT := gt_4 135 rfl rfl
theorem q896 : Cond.methodLink RL 279 yL_countKind ∈ gT := gt_4 141 rfl rfl
theorem q897 : Cond.static yL_countKind ∈ gT := gt_4 142 rfl rfl
theorem q898 : Cond.codeWith yL_countKind cL_countKind 5 (some .int) [(0, 11, 14, 19), (0, 11, 18, 21)] ∈ gT := gt_4 143 rfl rfl
theorem q903 : Cond.methodLink RL 282 yL_isAll ∈ gT := gt_4 148 rfl rfl
theorem q904 : Cond.static yL_isAll ∈ gT := gt_4 149 rfl rfl
theorem q905 : Cond.codeWith yL_isAll cL_isAll 5 (some .int) [(0, 18, 21, 19), (0, 18, 25, 21)] ∈ gT := gt_4 150 rfl rfl
theorem q910 : Cond.methodLink RL 285 yL_first ∈ gT := gt_4 155 rfl rfl
theorem q911 : Cond.static yL_first ∈ gT := gt_4 156 rfl rfl
theorem q912 : Cond.codeWith yL_first cL_first 6 (some .int) [(0, 13, 16, 19), (0, 13, 20, 21)] ∈ gT := gt_4 157 rfl rfl
theorem q917 : Cond.methodLink RL 288 yL_alike ∈ gT := gt_4 162 rfl rfl
theorem q918 : Cond.static yL_alike ∈ gT := gt_4 163 rfl rfl
theorem q919 : Cond.codeWith yL_alike cL_alike 5 (some .int) [(0, 18, 21, 19)] ∈ gT := gt_4 164 rfl rfl
theorem q924 : Cond.methodLink RL 291 yL_isName ∈ gT := gt_4 169 rfl rfl
theorem q925 : Cond.static yL_isName ∈ gT := gt_4 170 rfl rfl
theorem q926 : Cond.codeWith yL_isName cL_isName 4 (some .int) [(0, 17, 20, 19)] ∈ gT := gt_4 171 rfl rfl
theorem q931 : Cond.methodLink RL 294 yL_fault ∈ gT := gt_4 176 rfl rfl
theorem q932 : Cond.static yL_fault ∈ gT := gt_4 177 rfl rfl
theorem q933 : Cond.codeWith yL_fault cL_fault 4 (some .int) [(0, 10, 13, 19)] ∈ gT := gt_4 178 rfl rfl
theorem q939 : Cond.methodLink RL 297 yL_sort ∈ gT := gt_4 184 rfl rfl
theorem q940 : Cond.static yL_sort ∈ gT := gt_4 185 rfl rfl
theorem q941 : Cond.codeWith yL_sort cL_sort 6 (some .int) [(0, 13, 16, 19)] ∈ gT := gt_4 186 rfl rfl
theorem q950 : Cond.methodLink RL 300 yL_longest ∈ gT := gt_4 195 rfl rfl
theorem q951 : Cond.static yL_longest ∈ gT := gt_4 196 rfl rfl
theorem q952 : Cond.codeWith yL_longest cL_longest 5 (some .int) [(0, 11, 14, 19)] ∈ gT := gt_4 197 rfl rfl
theorem q957 : Cond.methodLink RL 303 yL_pieces ∈ gT := gt_4 202 rfl rfl
theorem q958 : Cond.static yL_pieces ∈ gT := gt_4 203 rfl rfl
theorem q959 : Cond.codeWith yL_pieces cL_pieces 4 (some .int) [(0, 10, 13, 19)] ∈ gT := gt_4 204 rfl rfl
theorem q965 : Cond.methodLink RL 306 yL_piece ∈ gT := gt_4 210 rfl rfl
theorem q966 : Cond.static yL_piece ∈ gT := gt_4 211 rfl rfl
theorem q967 : Cond.codeWith yL_piece cL_piece 6 (some .int) [(0, 13, 16, 19), (0, 13, 20, 21)] ∈ gT := gt_4 212 rfl rfl
theorem q973 : Cond.methodLink RL 309 yL_sorts ∈ gT := gt_4 218 rfl rfl
theorem q974 : Cond.static yL_sorts ∈ gT := gt_4 219 rfl rfl
theorem q975 : Cond.codeWith yL_sorts cL_sorts 4 (some .int) [(0, 9, 12, 19)] ∈ gT := gt_4 220 rfl rfl
theorem q981 : Cond.methodLink RL 312 yL_cuts ∈ gT := gt_4 226 rfl rfl
theorem q982 : Cond.static yL_cuts ∈ gT := gt_4 227 rfl rfl
theorem q983 : Cond.codeWith yL_cuts cL_cuts 4 (some .int) [(0, 10, 13, 19)] ∈ gT := gt_4 228 rfl rfl
theorem q989 : Cond.methodLink RL 315 yL_back ∈ gT := gt_4 234 rfl rfl
theorem q990 : Cond.static yL_back ∈ gT := gt_4 235 rfl rfl
theorem q991 : Cond.codeWith yL_back cL_back 4 (some .int) [(0, 10, 13, 19)] ∈ gT := gt_4 236 rfl rfl
theorem q997 : Cond.methodLink RL 318 yL_fewest ∈ gT := gt_5 2 rfl rfl
theorem q998 : Cond.static yL_fewest ∈ gT := gt_5 3 rfl rfl
theorem q999 : Cond.codeWith yL_fewest cL_fewest 4 (some .int) [(0, 10, 13, 19)] ∈ gT := gt_5 4 rfl rfl
theorem q1005 : Cond.methodLink RL 321 yL_parted ∈ gT := gt_5 10 rfl rfl
theorem q1006 : Cond.static yL_parted ∈ gT := gt_5 11 rfl rfl
theorem q1007 : Cond.codeWith yL_parted cL_parted 5 (some .int) [(0, 11, 14, 19), (0, 11, 18, 21)] ∈ gT := gt_5 12 rfl rfl
theorem q1013 : Cond.methodLink RL 324 yL_house ∈ gT := gt_5 18 rfl rfl
theorem q1014 : Cond.static yL_house ∈ gT := gt_5 19 rfl rfl
theorem q1015 : Cond.codeWith yL_house cL_house 4 (some .int) [(0, 10, 13, 21)] ∈ gT := gt_5 20 rfl rfl
theorem q1063 : Cond.methodLink RL 260 yX4_thrown ∈ gT := gt_5 68 rfl rfl
theorem q1064 : Cond.instanceMethod yX4_thrown ∈ gT := gt_5 69 rfl rfl
theorem q1065 : Cond.selects RX4 yX4_thrown yX4_thrown ∈ gT := gt_5 70 rfl rfl
theorem q1066 : Cond.code yX4_thrown cX4_thrown 1 (some .int) ∈ gT := gt_5 71 rfl rfl
theorem q1067 : Cond.methodLink RL 181 yX4_add ∈ gT := gt_5 72 rfl rfl
theorem q1068 : Cond.instanceMethod yX4_add ∈ gT := gt_5 73 rfl rfl
theorem q1069 : Cond.selects RX4 yX4_add yX4_add ∈ gT := gt_5 74 rfl rfl
theorem q1070 : Cond.code yX4_add cX4_add 3 (some .int) ∈ gT := gt_5 75 rfl rfl
theorem q1093 : Cond.methodLink RL 185 yX4_put ∈ gT := gt_5 98 rfl rfl
theorem q1094 : Cond.instanceMethod yX4_put ∈ gT := gt_5 99 rfl rfl
theorem q1095 : Cond.selects RX4 yX4_put yX4_put ∈ gT := gt_5 100 rfl rfl
theorem q1096 : Cond.code yX4_put cX4_put 5 (some .int) ∈ gT := gt_5 101 rfl rfl
theorem q1101 : Cond.methodLink RL 188 yX4_insert ∈ gT := gt_5 106 rfl rfl
theorem q1102 : Cond.methodLink RL 191 yX4_drop ∈ gT := gt_5 107 rfl rfl
theorem q1103 : Cond.instanceMethod yX4_drop ∈ gT := gt_5 108 rfl rfl
theorem q1104 : Cond.selects RX4 yX4_drop yX4_drop ∈ gT := gt_5 109 rfl rfl
theorem q1105 : Cond.code yX4_drop cX4_drop 5 (some .int) ∈ gT := gt_5 110 rfl rfl
theorem q1110 : Cond.methodLink RL 195 yX4_clear ∈ gT := gt_5 115 rfl rfl
theorem q1111 : Cond.instanceMethod yX4_clear ∈ gT := gt_5 116 rfl rfl
theorem q1112 : Cond.selects RX4 yX4_clear yX4_clear ∈ gT := gt_5 117 rfl rfl
theorem q1113 : Cond.code yX4_clear cX4_clear 3 (some .int) ∈ gT := gt_5 118 rfl rfl
theorem q1114 : Cond.methodLink RL 198 yX4_copy ∈ gT := gt_5 119 rfl rfl
theorem q1115 : Cond.instanceMethod yX4_copy ∈ gT := gt_5 120 rfl rfl
theorem q1116 : Cond.selects RX4 yX4_copy yX4_copy ∈ gT := gt_5 121 rfl rfl
theorem q1117 : Cond.code yX4_copy cX4_copy 3 (some .int) ∈ gT := gt_5 122 rfl rfl
theorem q1122 : Cond.methodLink RL 201 yX4_join ∈ gT := gt_5 127 rfl rfl
theorem q1123 : Cond.instanceMethod yX4_join ∈ gT := gt_5 128 rfl rfl
theorem q1124 : Cond.selects RX4 yX4_join yX4_join ∈ gT := gt_5 129 rfl rfl
theorem q1125 : Cond.code yX4_join cX4_join 5 (some .int) ∈ gT := gt_5 130 rfl rfl
theorem q1126 : Cond.methodLink RL 204 yX4_turn ∈ gT := gt_5 131 rfl rfl
theorem q1127 : Cond.instanceMethod yX4_turn ∈ gT := gt_5 132 rfl rfl
theorem q1128 : Cond.selects RX4 yX4_turn yX4_turn ∈ gT := gt_5 133 rfl rfl
theorem q1129 : Cond.code yX4_turn cX4_turn 5 (some .int) ∈ gT := gt_5 134 rfl rfl
theorem q1130 : Cond.methodLink RL 207 yX4_fill ∈ gT := gt_5 135 rfl rfl
theorem q1131 : Cond.instanceMethod yX4_fill ∈ gT := gt_5 136 rfl rfl
theorem q1132 : Cond.selects RX4 yX4_fill yX4_fill ∈ gT := gt_5 137 rfl rfl
theorem q1133 : Cond.code yX4_fill cX4_fill 6 (some .int) ∈ gT := gt_5 138 rfl rfl
theorem q1134 : Cond.methodLink RL 210 yX4_cut ∈ gT := gt_5 139 rfl rfl
theorem q1135 : Cond.instanceMethod yX4_cut ∈ gT := gt_5 140 rfl rfl
theorem q1136 : Cond.selects RX4 yX4_cut yX4_cut ∈ gT := gt_5 141 rfl rfl
theorem q1137 : Cond.code yX4_cut cX4_cut 5 (some .int) ∈ gT := gt_5 142 rfl rfl
theorem q1138 : Cond.methodLink RL 214 yX4_keep ∈ gT := gt_5 143 rfl rfl
theorem q1139 : Cond.instanceMethod yX4_keep ∈ gT := gt_5 144 rfl rfl
theorem q1140 : Cond.selects RX4 yX4_keep yX4_keep ∈ gT := gt_5 145 rfl rfl
theorem q1141 : Cond.code yX4_keep cX4_keep 6 (some .int) ∈ gT := gt_5 146 rfl rfl
theorem q1160 : Cond.methodLink RL 217 yX4_keepKind ∈ gT := gt_5 165 rfl rfl
theorem q1161 : Cond.instanceMethod yX4_keepKind ∈ gT := gt_5 166 rfl rfl
theorem q1162 : Cond.selects RX4 yX4_keepKind yX4_keepKind ∈ gT := gt_5 167 rfl rfl
theorem q1163 : Cond.code yX4_keepKind cX4_keepKind 6 (some .int) ∈ gT := gt_5 168 rfl rfl
theorem q1167 : Cond.methodLink RL 220 yX4_take ∈ gT := gt_5 172 rfl rfl
theorem q1168 : Cond.instanceMethod yX4_take ∈ gT := gt_5 173 rfl rfl
theorem q1169 : Cond.selects RX4 yX4_take yX4_take ∈ gT := gt_5 174 rfl rfl
theorem q1170 : Cond.code yX4_take cX4_take 8 (some .int) ∈ gT := gt_5 175 rfl rfl
theorem q1191 : Cond.methodLink RL 223 yX4_mend ∈ gT := gt_5 196 rfl rfl
theorem q1192 : Cond.instanceMethod yX4_mend ∈ gT := gt_5 197 rfl rfl
theorem q1193 : Cond.selects RX4 yX4_mend yX4_mend ∈ gT := gt_5 198 rfl rfl
theorem q1194 : Cond.code yX4_mend cX4_mend 5 (some .int) ∈ gT := gt_5 199 rfl rfl
theorem q1195 : Cond.methodLink RL 226 yX4_kind ∈ gT := gt_5 200 rfl rfl
theorem q1196 : Cond.instanceMethod yX4_kind ∈ gT := gt_5 201 rfl rfl
theorem q1197 : Cond.selects RX4 yX4_kind yX4_kind ∈ gT := gt_5 202 rfl rfl
theorem q1198 : Cond.code yX4_kind cX4_kind 2 (some .int) ∈ gT := gt_5 203 rfl rfl
theorem q1199 : Cond.methodLink RL 229 yX4_ask ∈ gT := gt_5 204 rfl rfl
theorem q1200 : Cond.instanceMethod yX4_ask ∈ gT := gt_5 205 rfl rfl
theorem q1201 : Cond.selects RX4 yX4_ask yX4_ask ∈ gT := gt_5 206 rfl rfl
theorem q1202 : Cond.code yX4_ask cX4_ask 3 (some .boolean) ∈ gT := gt_5 207 rfl rfl
theorem q1203 : Cond.methodLink RL 232 yX4_all ∈ gT := gt_5 208 rfl rfl
theorem q1204 : Cond.instanceMethod yX4_all ∈ gT := gt_5 209 rfl rfl
theorem q1205 : Cond.selects RX4 yX4_all yX4_all ∈ gT := gt_5 210 rfl rfl
theorem q1206 : Cond.code yX4_all cX4_all 4 (some .int) ∈ gT := gt_5 211 rfl rfl
theorem q1207 : Cond.methodLink RL 235 yX4_nth ∈ gT := gt_5 212 rfl rfl
theorem q1208 : Cond.instanceMethod yX4_nth ∈ gT := gt_5 213 rfl rfl
theorem q1209 : Cond.selects RX4 yX4_nth yX4_nth ∈ gT := gt_5 214 rfl rfl
theorem q1210 : Cond.code yX4_nth cX4_nth 5 (some .int) ∈ gT := gt_5 215 rfl rfl
theorem q1211 : Cond.methodLink RL 238 yX4_next ∈ gT := gt_5 216 rfl rfl
theorem q1212 : Cond.instanceMethod yX4_next ∈ gT := gt_5 217 rfl rfl
theorem q1213 : Cond.selects RX4 yX4_next yX4_next ∈ gT := gt_5 218 rfl rfl
theorem q1214 : Cond.code yX4_next cX4_next 5 (some .int) ∈ gT := gt_5 219 rfl rfl
theorem q1215 : Cond.methodLink RL 241 yX4_run ∈ gT := gt_5 220 rfl rfl
theorem q1216 : Cond.instanceMethod yX4_run ∈ gT := gt_5 221 rfl rfl
theorem q1217 : Cond.selects RX4 yX4_run yX4_run ∈ gT := gt_5 222 rfl rfl
theorem q1218 : Cond.code yX4_run cX4_run 4 (some .int) ∈ gT := gt_5 223 rfl rfl
theorem q1219 : Cond.methodLink RL 244 yX4_ofKind ∈ gT := gt_5 224 rfl rfl
theorem q1226 : Cond.methodLink RL 247 yX4_ofQuestion ∈ gT := gt_5 231 rfl rfl
theorem q1227 : Cond.instanceMethod yX4_ofQuestion ∈ gT := gt_5 232 rfl rfl
theorem q1228 : Cond.selects RX4 yX4_ofQuestion yX4_ofQuestion ∈ gT := gt_5 233 rfl rfl
theorem q1229 : Cond.code yX4_ofQuestion cX4_ofQuestion 6 (some .int) ∈ gT := gt_5 234 rfl rfl
theorem q1230 : Cond.methodLink RL 250 yX4_kinds ∈ gT := gt_5 235 rfl rfl
theorem q1231 : Cond.instanceMethod yX4_kinds ∈ gT := gt_5 236 rfl rfl
theorem q1232 : Cond.selects RX4 yX4_kinds yX4_kinds ∈ gT := gt_5 237 rfl rfl
theorem q1233 : Cond.code yX4_kinds cX4_kinds 5 (some .int) ∈ gT := gt_5 238 rfl rfl
theorem q1234 : Cond.methodLink RL 253 yX4_both ∈ gT := gt_5 239 rfl rfl
theorem q1235 : Cond.instanceMethod yX4_both ∈ gT := gt_6 0 rfl rfl
theorem q1236 : Cond.selects RX4 yX4_both yX4_both ∈ gT := gt_6 1 rfl rfl
theorem q1237 : Cond.code yX4_both cX4_both 5 (some .int) ∈ gT := gt_6 2 rfl rfl
theorem q1238 : Cond.methodLink RL 256 yX4_within ∈ gT := gt_6 3 rfl rfl
theorem q1239 : Cond.instanceMethod yX4_within ∈ gT := gt_6 4 rfl rfl
theorem q1240 : Cond.selects RX4 yX4_within yX4_within ∈ gT := gt_6 5 rfl rfl
theorem q1241 : Cond.code yX4_within cX4_within 4 (some .boolean) ∈ gT := gt_6 6 rfl rfl
theorem q1242 : Cond.methodLink RL 259 yX4_differ ∈ gT := gt_6 7 rfl rfl
theorem q1243 : Cond.instanceMethod yX4_differ ∈ gT := gt_6 8 rfl rfl
theorem q1244 : Cond.selects RX4 yX4_differ yX4_differ ∈ gT := gt_6 9 rfl rfl
theorem q1245 : Cond.code yX4_differ cX4_differ 5 (some .int) ∈ gT := gt_6 10 rfl rfl
theorem q1246 : Cond.methodLink RL 266 yX4_length ∈ gT := gt_6 11 rfl rfl
theorem q1247 : Cond.instanceMethod yX4_length ∈ gT := gt_6 12 rfl rfl
theorem q1248 : Cond.selects RX4 yX4_length yX4_length ∈ gT := gt_6 13 rfl rfl
theorem q1249 : Cond.code yX4_length cX4_length 2 (some .int) ∈ gT := gt_6 14 rfl rfl
theorem q1250 : Cond.methodLink RL 269 yX4_sign ∈ gT := gt_6 15 rfl rfl
theorem q1251 : Cond.instanceMethod yX4_sign ∈ gT := gt_6 16 rfl rfl
theorem q1252 : Cond.selects RX4 yX4_sign yX4_sign ∈ gT := gt_6 17 rfl rfl
theorem q1253 : Cond.code yX4_sign cX4_sign 3 (some .int) ∈ gT := gt_6 18 rfl rfl
theorem q1254 : Cond.methodLink RL 272 yX4_signs ∈ gT := gt_6 19 rfl rfl
theorem q1255 : Cond.instanceMethod yX4_signs ∈ gT := gt_6 20 rfl rfl
theorem q1256 : Cond.selects RX4 yX4_signs yX4_signs ∈ gT := gt_6 21 rfl rfl
theorem q1257 : Cond.code yX4_signs cX4_signs 2 (some (.object "java/lang/String")) ∈ gT := gt_6 22 rfl rfl
theorem q1269 : Cond.methodLink RL 275 yX4_kindsOf ∈ gT := gt_6 34 rfl rfl
theorem q1270 : Cond.instanceMethod yX4_kindsOf ∈ gT := gt_6 35 rfl rfl
theorem q1271 : Cond.selects RX4 yX4_kindsOf yX4_kindsOf ∈ gT := gt_6 36 rfl rfl
theorem q1272 : Cond.code yX4_kindsOf cX4_kindsOf 2 (some (.object "java/lang/String")) ∈ gT := gt_6 37 rfl rfl
theorem q1273 : Cond.methodLink RL 278 yX4_count ∈ gT := gt_6 38 rfl rfl
theorem q1274 : Cond.instanceMethod yX4_count ∈ gT := gt_6 39 rfl rfl
theorem q1275 : Cond.selects RX4 yX4_count yX4_count ∈ gT := gt_6 40 rfl rfl
theorem q1276 : Cond.code yX4_count cX4_count 3 (some .int) ∈ gT := gt_6 41 rfl rfl
theorem q1281 : Cond.methodLink RL 281 yX4_countKind ∈ gT := gt_6 46 rfl rfl
theorem q1282 : Cond.instanceMethod yX4_countKind ∈ gT := gt_6 47 rfl rfl
theorem q1283 : Cond.selects RX4 yX4_countKind yX4_countKind ∈ gT := gt_6 48 rfl rfl
theorem q1284 : Cond.code yX4_countKind cX4_countKind 5 (some .int) ∈ gT := gt_6 49 rfl rfl
theorem q1285 : Cond.methodLink RL 284 yX4_isAll ∈ gT := gt_6 50 rfl rfl
theorem q1286 : Cond.instanceMethod yX4_isAll ∈ gT := gt_6 51 rfl rfl
theorem q1287 : Cond.selects RX4 yX4_isAll yX4_isAll ∈ gT := gt_6 52 rfl rfl
theorem q1288 : Cond.code yX4_isAll cX4_isAll 3 (some .boolean) ∈ gT := gt_6 53 rfl rfl
theorem q1289 : Cond.methodLink RL 287 yX4_first ∈ gT := gt_6 54 rfl rfl
theorem q1290 : Cond.instanceMethod yX4_first ∈ gT := gt_6 55 rfl rfl
theorem q1291 : Cond.selects RX4 yX4_first yX4_first ∈ gT := gt_6 56 rfl rfl
theorem q1292 : Cond.code yX4_first cX4_first 6 (some .int) ∈ gT := gt_6 57 rfl rfl
theorem q1293 : Cond.methodLink RL 290 yX4_alike ∈ gT := gt_6 58 rfl rfl
theorem q1294 : Cond.instanceMethod yX4_alike ∈ gT := gt_6 59 rfl rfl
theorem q1295 : Cond.selects RX4 yX4_alike yX4_alike ∈ gT := gt_6 60 rfl rfl
theorem q1296 : Cond.code yX4_alike cX4_alike 4 (some .boolean) ∈ gT := gt_6 61 rfl rfl
theorem q1297 : Cond.methodLink RL 293 yX4_isName ∈ gT := gt_6 62 rfl rfl
theorem q1298 : Cond.instanceMethod yX4_isName ∈ gT := gt_6 63 rfl rfl
theorem q1299 : Cond.selects RX4 yX4_isName yX4_isName ∈ gT := gt_6 64 rfl rfl
theorem q1300 : Cond.code yX4_isName cX4_isName 2 (some .boolean) ∈ gT := gt_6 65 rfl rfl
theorem q1305 : Cond.methodLink RL 296 yX4_fault ∈ gT := gt_6 70 rfl rfl
theorem q1306 : Cond.instanceMethod yX4_fault ∈ gT := gt_6 71 rfl rfl
theorem q1307 : Cond.selects RX4 yX4_fault yX4_fault ∈ gT := gt_6 72 rfl rfl
theorem q1308 : Cond.code yX4_fault cX4_fault 2 (some .int) ∈ gT := gt_6 73 rfl rfl
theorem q1313 : Cond.methodLink RL 299 yX4_sort ∈ gT := gt_6 78 rfl rfl
theorem q1314 : Cond.instanceMethod yX4_sort ∈ gT := gt_6 79 rfl rfl
theorem q1315 : Cond.selects RX4 yX4_sort yX4_sort ∈ gT := gt_6 80 rfl rfl
theorem q1316 : Cond.code yX4_sort cX4_sort 4 (some .int) ∈ gT := gt_6 81 rfl rfl
theorem q1317 : Cond.methodLink RL 302 yX4_longest ∈ gT := gt_6 82 rfl rfl
theorem q1318 : Cond.instanceMethod yX4_longest ∈ gT := gt_6 83 rfl rfl
theorem q1319 : Cond.selects RX4 yX4_longest yX4_longest ∈ gT := gt_6 84 rfl rfl
theorem q1320 : Cond.code yX4_longest cX4_longest 3 (some .int) ∈ gT := gt_6 85 rfl rfl
theorem q1321 : Cond.methodLink RL 305 yX4_pieces ∈ gT := gt_6 86 rfl rfl
theorem q1322 : Cond.instanceMethod yX4_pieces ∈ gT := gt_6 87 rfl rfl
theorem q1323 : Cond.selects RX4 yX4_pieces yX4_pieces ∈ gT := gt_6 88 rfl rfl
theorem q1324 : Cond.code yX4_pieces cX4_pieces 2 (some .int) ∈ gT := gt_6 89 rfl rfl
theorem q1329 : Cond.methodLink RL 308 yX4_piece ∈ gT := gt_6 94 rfl rfl
theorem q1330 : Cond.instanceMethod yX4_piece ∈ gT := gt_6 95 rfl rfl
theorem q1331 : Cond.selects RX4 yX4_piece yX4_piece ∈ gT := gt_6 96 rfl rfl
theorem q1332 : Cond.code yX4_piece cX4_piece 6 (some .int) ∈ gT := gt_6 97 rfl rfl
theorem q1333 : Cond.methodLink RL 311 yX4_sorts ∈ gT := gt_6 98 rfl rfl
theorem q1334 : Cond.instanceMethod yX4_sorts ∈ gT := gt_6 99 rfl rfl
theorem q1335 : Cond.selects RX4 yX4_sorts yX4_sorts ∈ gT := gt_6 100 rfl rfl
theorem q1336 : Cond.code yX4_sorts cX4_sorts 4 (some (.object "java/lang/String")) ∈ gT := gt_6 101 rfl rfl
theorem q1337 : Cond.methodLink RL 314 yX4_cuts ∈ gT := gt_6 102 rfl rfl
theorem q1338 : Cond.instanceMethod yX4_cuts ∈ gT := gt_6 103 rfl rfl
theorem q1339 : Cond.selects RX4 yX4_cuts yX4_cuts ∈ gT := gt_6 104 rfl rfl
theorem q1340 : Cond.code yX4_cuts cX4_cuts 2 (some .int) ∈ gT := gt_6 105 rfl rfl
theorem q1345 : Cond.methodLink RL 317 yX4_back ∈ gT := gt_6 110 rfl rfl
theorem q1346 : Cond.instanceMethod yX4_back ∈ gT := gt_6 111 rfl rfl
theorem q1347 : Cond.selects RX4 yX4_back yX4_back ∈ gT := gt_6 112 rfl rfl
theorem q1348 : Cond.code yX4_back cX4_back 2 (some .int) ∈ gT := gt_6 113 rfl rfl
theorem q1353 : Cond.methodLink RL 320 yX4_fewest ∈ gT := gt_6 118 rfl rfl
theorem q1354 : Cond.instanceMethod yX4_fewest ∈ gT := gt_6 119 rfl rfl
theorem q1355 : Cond.selects RX4 yX4_fewest yX4_fewest ∈ gT := gt_6 120 rfl rfl
theorem q1356 : Cond.code yX4_fewest cX4_fewest 2 (some .int) ∈ gT := gt_6 121 rfl rfl
theorem q1362 : Cond.methodLink RL 323 yX4_parted ∈ gT := gt_6 127 rfl rfl
theorem q1363 : Cond.instanceMethod yX4_parted ∈ gT := gt_6 128 rfl rfl
theorem q1364 : Cond.selects RX4 yX4_parted yX4_parted ∈ gT := gt_6 129 rfl rfl
theorem q1365 : Cond.code yX4_parted cX4_parted 5 (some .int) ∈ gT := gt_6 130 rfl rfl
theorem q1370 : Cond.methodLink RL 326 yX4_house ∈ gT := gt_6 135 rfl rfl
theorem q1371 : Cond.instanceMethod yX4_house ∈ gT := gt_6 136 rfl rfl
theorem q1372 : Cond.selects RX4 yX4_house yX4_house ∈ gT := gt_6 137 rfl rfl
theorem q1373 : Cond.code yX4_house cX4_house 2 (some .int) ∈ gT := gt_6 138 rfl rfl
theorem q1378 : Cond.methodLink RL 330 yX4_knock ∈ gT := gt_6 143 rfl rfl
theorem q1379 : Cond.instanceMethod yX4_knock ∈ gT := gt_6 144 rfl rfl
theorem q1380 : Cond.selects RX4 yX4_knock yX4_knock ∈ gT := gt_6 145 rfl rfl
theorem q1381 : Cond.code yX4_knock cX4_knock 1 (some .int) ∈ gT := gt_6 146 rfl rfl
theorem q1382 : Cond.methodLink RL 335 yX4_isSound ∈ gT := gt_6 147 rfl rfl
theorem q1383 : Cond.instanceMethod yX4_isSound ∈ gT := gt_6 148 rfl rfl
theorem q1384 : Cond.selects RX4 yX4_isSound yX4_isSound ∈ gT := gt_6 149 rfl rfl
theorem q1385 : Cond.code yX4_isSound cX4_isSound 2 (some .boolean) ∈ gT := gt_6 150 rfl rfl
theorem q1391 : Cond.methodLink RL 340 yX4_digest ∈ gT := gt_6 156 rfl rfl
theorem q1392 : Cond.instanceMethod yX4_digest ∈ gT := gt_6 157 rfl rfl
theorem q1393 : Cond.selects RX4 yX4_digest yX4_digest ∈ gT := gt_6 158 rfl rfl
theorem q1394 : Cond.code yX4_digest cX4_digest 5 (some .long) ∈ gT := gt_6 159 rfl rfl
theorem q39 : Cond.initialized RX3 ∈ gT := gt_1 4 rfl rfl
theorem q57 : Cond.classLink RL 8 RX2 ∈ gT := gt_1 22 rfl rfl
theorem q58 : Cond.instantiable RX2 4 ∈ gT := gt_1 23 rfl rfl
theorem q59 : Cond.methodLink RL 171 yX2_init ∈ gT := gt_1 24 rfl rfl
theorem q60 : Cond.instanceMethod yX2_init ∈ gT := gt_1 25 rfl rfl
theorem q61 : Cond.code yX2_init cX2_init 2 none ∈ gT := gt_1 26 rfl rfl
theorem q291 : Cond.classLink RL 14 RX3 ∈ gT := gt_2 16 rfl rfl
theorem q292 : Cond.instantiable RX3 2 ∈ gT := gt_2 17 rfl rfl
theorem q293 : Cond.methodLinkNest RL 175 yX3_init RL ∈ gT := gt_2 18 rfl rfl
theorem q294 : Cond.instanceMethod yX3_init ∈ gT := gt_2 19 rfl rfl
theorem q295 : Cond.code yX3_init cX3_init 1 none ∈ gT := gt_2 20 rfl rfl
theorem q1017 : Cond.classLink RL 172 RX4 ∈ gT := gt_5 22 rfl rfl
theorem q1018 : Cond.instantiable RX4 7 ∈ gT := gt_5 23 rfl rfl
theorem q1019 : Cond.methodLink RL 174 yX4_init ∈ gT := gt_5 24 rfl rfl
theorem q1020 : Cond.instanceMethod yX4_init ∈ gT := gt_5 25 rfl rfl
theorem q1021 : Cond.code yX4_init cX4_init 1 none ∈ gT := gt_5 26 rfl rfl
theorem okL_add : gOkH yL_add cL_add 5 (some .int) [(0, 11, 14, 19), (0, 11, 18, 21)] 4 := ⟨q306, q35, ⟨by decide +kernel, by decide +kernel⟩, by decide +kernel⟩
theorem okX4_add : gOk yX4_add cX4_add 3 (some .int) 2 := ⟨q1070, q38, ⟨by decide +kernel, by decide +kernel⟩, by decide +kernel⟩
theorem okL_put : gOkH yL_put cL_put 6 (some .int) [(0, 13, 16, 19), (0, 13, 20, 21)] 5 := ⟨q357, q35, ⟨by decide +kernel, by decide +kernel⟩, by decide +kernel⟩
theorem okX4_put : gOk yX4_put cX4_put 5 (some .int) 3 := ⟨q1096, q38, ⟨by decide +kernel, by decide +kernel⟩, by decide +kernel⟩
theorem okL_insert : gOkH yL_insert cL_insert 6 (some .int) [(0, 13, 16, 19), (0, 13, 20, 21)] 5 := ⟨q369, q35, ⟨by decide +kernel, by decide +kernel⟩, by decide +kernel⟩
theorem okL_drop : gOkH yL_drop cL_drop 5 (some .int) [(0, 11, 14, 19)] 4 := ⟨q376, q35, ⟨by decide +kernel, by decide +kernel⟩, by decide +kernel⟩
theorem okX4_drop : gOk yX4_drop cX4_drop 5 (some .int) 2 := ⟨q1105, q38, ⟨by decide +kernel, by decide +kernel⟩, by decide +kernel⟩
theorem okL_clear : gOkH yL_clear cL_clear 4 (some .int) [(0, 10, 13, 19)] 3 := ⟨q391, q35, ⟨by decide +kernel, by decide +kernel⟩, by decide +kernel⟩
theorem okX4_clear : gOk yX4_clear cX4_clear 3 (some .int) 1 := ⟨q1113, q38, ⟨by decide +kernel, by decide +kernel⟩, by decide +kernel⟩
theorem okL_copy : gOkH yL_copy cL_copy 5 (some .int) [(0, 11, 14, 19)] 4 := ⟨q398, q35, ⟨by decide +kernel, by decide +kernel⟩, by decide +kernel⟩
theorem okX4_copy : gOk yX4_copy cX4_copy 3 (some .int) 2 := ⟨q1117, q38, ⟨by decide +kernel, by decide +kernel⟩, by decide +kernel⟩
theorem okL_join : gOkH yL_join cL_join 5 (some .int) [(0, 11, 14, 19)] 4 := ⟨q409, q35, ⟨by decide +kernel, by decide +kernel⟩, by decide +kernel⟩
theorem okX4_join : gOk yX4_join cX4_join 5 (some .int) 2 := ⟨q1125, q38, ⟨by decide +kernel, by decide +kernel⟩, by decide +kernel⟩
theorem okL_turn : gOkH yL_turn cL_turn 4 (some .int) [(0, 10, 13, 19)] 3 := ⟨q420, q35, ⟨by decide +kernel, by decide +kernel⟩, by decide +kernel⟩
theorem okX4_turn : gOk yX4_turn cX4_turn 5 (some .int) 1 := ⟨q1129, q38, ⟨by decide +kernel, by decide +kernel⟩, by decide +kernel⟩
theorem okL_fill : gOkH yL_fill cL_fill 6 (some .int) [(0, 13, 16, 19), (0, 13, 20, 21)] 5 := ⟨q431, q35, ⟨by decide +kernel, by decide +kernel⟩, by decide +kernel⟩
theorem okX4_fill : gOk yX4_fill cX4_fill 6 (some .int) 3 := ⟨q1133, q38, ⟨by decide +kernel, by decide +kernel⟩, by decide +kernel⟩
theorem okL_cut : gOkH yL_cut cL_cut 6 (some .int) [(0, 13, 16, 19)] 5 := ⟨q438, q35, ⟨by decide +kernel, by decide +kernel⟩, by decide +kernel⟩
theorem okX4_cut : gOk yX4_cut cX4_cut 5 (some .int) 3 := ⟨q1137, q38, ⟨by decide +kernel, by decide +kernel⟩, by decide +kernel⟩
theorem okL_keep : gOkH yL_keep cL_keep 6 (some .int) [(0, 13, 16, 19), (0, 13, 20, 21)] 5 := ⟨q445, q35, ⟨by decide +kernel, by decide +kernel⟩, by decide +kernel⟩
theorem okX4_keep : gOk yX4_keep cX4_keep 6 (some .int) 3 := ⟨q1141, q38, ⟨by decide +kernel, by decide +kernel⟩, by decide +kernel⟩
theorem okL_keepKind : gOkH yL_keepKind cL_keepKind 6 (some .int) [(0, 13, 16, 19), (0, 13, 20, 21)] 5 := ⟨q459, q35, ⟨by decide +kernel, by decide +kernel⟩, by decide +kernel⟩
theorem okX4_keepKind : gOk yX4_keepKind cX4_keepKind 6 (some .int) 3 := ⟨q1163, q38, ⟨by decide +kernel, by decide +kernel⟩, by decide +kernel⟩
theorem okL_take : gOkH yL_take cL_take 6 (some .int) [(0, 13, 16, 19)] 5 := ⟨q473, q35, ⟨by decide +kernel, by decide +kernel⟩, by decide +kernel⟩
theorem okX4_take : gOk yX4_take cX4_take 8 (some .int) 3 := ⟨q1170, q38, ⟨by decide +kernel, by decide +kernel⟩, by decide +kernel⟩
theorem okL_mend : gOkH yL_mend cL_mend 4 (some .int) [(0, 10, 13, 19)] 3 := ⟨q488, q35, ⟨by decide +kernel, by decide +kernel⟩, by decide +kernel⟩
theorem okX4_mend : gOk yX4_mend cX4_mend 5 (some .int) 1 := ⟨q1194, q38, ⟨by decide +kernel, by decide +kernel⟩, by decide +kernel⟩
theorem okL_kind : gOkH yL_kind cL_kind 4 (some .int) [(0, 10, 13, 21)] 3 := ⟨q496, q35, ⟨by decide +kernel, by decide +kernel⟩, by decide +kernel⟩
theorem okX4_kind : gOk yX4_kind cX4_kind 2 (some .int) 1 := ⟨q1198, q38, ⟨by decide +kernel, by decide +kernel⟩, by decide +kernel⟩
theorem okL_ask : gOkH yL_ask cL_ask 5 (some .int) [(0, 18, 21, 21)] 4 := ⟨q503, q35, ⟨by decide +kernel, by decide +kernel⟩, by decide +kernel⟩
theorem okX4_ask : gOk yX4_ask cX4_ask 3 (some .boolean) 2 := ⟨q1202, q38, ⟨by decide +kernel, by decide +kernel⟩, by decide +kernel⟩
theorem okL_all : gOkH yL_all cL_all 4 (some .int) [(0, 10, 13, 21)] 3 := ⟨q511, q35, ⟨by decide +kernel, by decide +kernel⟩, by decide +kernel⟩
theorem okX4_all : gOk yX4_all cX4_all 4 (some .int) 1 := ⟨q1206, q38, ⟨by decide +kernel, by decide +kernel⟩, by decide +kernel⟩
theorem okL_nth : gOkH yL_nth cL_nth 5 (some .int) [(0, 11, 14, 21)] 4 := ⟨q518, q35, ⟨by decide +kernel, by decide +kernel⟩, by decide +kernel⟩
theorem okX4_nth : gOk yX4_nth cX4_nth 5 (some .int) 2 := ⟨q1210, q38, ⟨by decide +kernel, by decide +kernel⟩, by decide +kernel⟩
theorem okL_next : gOkH yL_next cL_next 6 (some .int) [(0, 13, 16, 21)] 5 := ⟨q525, q35, ⟨by decide +kernel, by decide +kernel⟩, by decide +kernel⟩
theorem okX4_next : gOk yX4_next cX4_next 5 (some .int) 3 := ⟨q1214, q38, ⟨by decide +kernel, by decide +kernel⟩, by decide +kernel⟩
theorem okL_run : gOkH yL_run cL_run 5 (some .int) [(0, 11, 14, 21)] 4 := ⟨q532, q35, ⟨by decide +kernel, by decide +kernel⟩, by decide +kernel⟩
theorem okX4_run : gOk yX4_run cX4_run 4 (some .int) 2 := ⟨q1218, q38, ⟨by decide +kernel, by decide +kernel⟩, by decide +kernel⟩
theorem okL_ofKind : gOkH yL_ofKind cL_ofKind 6 (some .int) [(0, 13, 16, 21)] 5 := ⟨q539, q35, ⟨by decide +kernel, by decide +kernel⟩, by decide +kernel⟩
theorem okL_ofQuestion : gOkH yL_ofQuestion cL_ofQuestion 6 (some .int) [(0, 13, 16, 21)] 5 := ⟨q549, q35, ⟨by decide +kernel, by decide +kernel⟩, by decide +kernel⟩
theorem okX4_ofQuestion : gOk yX4_ofQuestion cX4_ofQuestion 6 (some .int) 3 := ⟨q1229, q38, ⟨by decide +kernel, by decide +kernel⟩, by decide +kernel⟩
theorem okL_kinds : gOkH yL_kinds cL_kinds 5 (some .int) [(0, 11, 14, 21)] 4 := ⟨q556, q35, ⟨by decide +kernel, by decide +kernel⟩, by decide +kernel⟩
theorem okX4_kinds : gOk yX4_kinds cX4_kinds 5 (some .int) 2 := ⟨q1233, q38, ⟨by decide +kernel, by decide +kernel⟩, by decide +kernel⟩
theorem okL_both : gOkH yL_both cL_both 5 (some .int) [(0, 11, 14, 21)] 4 := ⟨q563, q35, ⟨by decide +kernel, by decide +kernel⟩, by decide +kernel⟩
theorem okX4_both : gOk yX4_both cX4_both 5 (some .int) 2 := ⟨q1237, q38, ⟨by decide +kernel, by decide +kernel⟩, by decide +kernel⟩
theorem okL_within : gOkH yL_within cL_within 5 (some .int) [(0, 18, 21, 21)] 4 := ⟨q570, q35, ⟨by decide +kernel, by decide +kernel⟩, by decide +kernel⟩
theorem okX4_within : gOk yX4_within cX4_within 4 (some .boolean) 2 := ⟨q1241, q38, ⟨by decide +kernel, by decide +kernel⟩, by decide +kernel⟩
theorem okL_differ : gOkH yL_differ cL_differ 6 (some .int) [(0, 13, 16, 21)] 5 := ⟨q577, q35, ⟨by decide +kernel, by decide +kernel⟩, by decide +kernel⟩
theorem okX4_differ : gOk yX4_differ cX4_differ 5 (some .int) 3 := ⟨q1245, q38, ⟨by decide +kernel, by decide +kernel⟩, by decide +kernel⟩
theorem okX4_thrown : gOk yX4_thrown cX4_thrown 1 (some .int) 0 := ⟨q1066, q38, ⟨by decide +kernel, by decide +kernel⟩, by decide +kernel⟩
theorem okL_length : gOkH yL_length cL_length 4 (some .int) [(0, 10, 13, 19)] 3 := ⟨q584, q35, ⟨by decide +kernel, by decide +kernel⟩, by decide +kernel⟩
theorem okX4_length : gOk yX4_length cX4_length 2 (some .int) 1 := ⟨q1249, q38, ⟨by decide +kernel, by decide +kernel⟩, by decide +kernel⟩
theorem okL_sign : gOkH yL_sign cL_sign 5 (some .int) [(0, 11, 14, 19)] 4 := ⟨q591, q35, ⟨by decide +kernel, by decide +kernel⟩, by decide +kernel⟩
theorem okX4_sign : gOk yX4_sign cX4_sign 3 (some .int) 2 := ⟨q1253, q38, ⟨by decide +kernel, by decide +kernel⟩, by decide +kernel⟩
theorem okL_signs : gOkH yL_signs cL_signs 4 (some .int) [(0, 9, 12, 19)] 3 := ⟨q598, q35, ⟨by decide +kernel, by decide +kernel⟩, by decide +kernel⟩
theorem okX4_signs : gOk yX4_signs cX4_signs 2 (some (.object "java/lang/String")) 1 := ⟨q1257, q38, ⟨by decide +kernel, by decide +kernel⟩, by decide +kernel⟩
theorem okL_kindsOf : gOkH yL_kindsOf cL_kindsOf 4 (some .int) [(0, 9, 12, 19)] 3 := ⟨q882, q35, ⟨by decide +kernel, by decide +kernel⟩, by decide +kernel⟩
theorem okX4_kindsOf : gOk yX4_kindsOf cX4_kindsOf 2 (some (.object "java/lang/String")) 1 := ⟨q1272, q38, ⟨by decide +kernel, by decide +kernel⟩, by decide +kernel⟩
theorem okL_count : gOkH yL_count cL_count 5 (some .int) [(0, 11, 14, 19), (0, 11, 18, 21)] 4 := ⟨q890, q35, ⟨by decide +kernel, by decide +kernel⟩, by decide +kernel⟩
theorem okX4_count : gOk yX4_count cX4_count 3 (some .int) 2 := ⟨q1276, q38, ⟨by decide +kernel, by decide +kernel⟩, by decide +kernel⟩
theorem okL_countKind : gOkH yL_countKind cL_countKind 5 (some .int) [(0, 11, 14, 19), (0, 11, 18, 21)] 4 := ⟨q898, q35, ⟨by decide +kernel, by decide +kernel⟩, by decide +kernel⟩
theorem okX4_countKind : gOk yX4_countKind cX4_countKind 5 (some .int) 2 := ⟨q1284, q38, ⟨by decide +kernel, by decide +kernel⟩, by decide +kernel⟩
theorem okL_isAll : gOkH yL_isAll cL_isAll 5 (some .int) [(0, 18, 21, 19), (0, 18, 25, 21)] 4 := ⟨q905, q35, ⟨by decide +kernel, by decide +kernel⟩, by decide +kernel⟩
theorem okX4_isAll : gOk yX4_isAll cX4_isAll 3 (some .boolean) 2 := ⟨q1288, q38, ⟨by decide +kernel, by decide +kernel⟩, by decide +kernel⟩
theorem okL_first : gOkH yL_first cL_first 6 (some .int) [(0, 13, 16, 19), (0, 13, 20, 21)] 5 := ⟨q912, q35, ⟨by decide +kernel, by decide +kernel⟩, by decide +kernel⟩
theorem okX4_first : gOk yX4_first cX4_first 6 (some .int) 3 := ⟨q1292, q38, ⟨by decide +kernel, by decide +kernel⟩, by decide +kernel⟩
theorem okL_alike : gOkH yL_alike cL_alike 5 (some .int) [(0, 18, 21, 19)] 4 := ⟨q919, q35, ⟨by decide +kernel, by decide +kernel⟩, by decide +kernel⟩
theorem okX4_alike : gOk yX4_alike cX4_alike 4 (some .boolean) 2 := ⟨q1296, q38, ⟨by decide +kernel, by decide +kernel⟩, by decide +kernel⟩
theorem okL_isName : gOkH yL_isName cL_isName 4 (some .int) [(0, 17, 20, 19)] 3 := ⟨q926, q35, ⟨by decide +kernel, by decide +kernel⟩, by decide +kernel⟩
theorem okX4_isName : gOk yX4_isName cX4_isName 2 (some .boolean) 1 := ⟨q1300, q38, ⟨by decide +kernel, by decide +kernel⟩, by decide +kernel⟩
theorem okL_fault : gOkH yL_fault cL_fault 4 (some .int) [(0, 10, 13, 19)] 3 := ⟨q933, q35, ⟨by decide +kernel, by decide +kernel⟩, by decide +kernel⟩
theorem okX4_fault : gOk yX4_fault cX4_fault 2 (some .int) 1 := ⟨q1308, q38, ⟨by decide +kernel, by decide +kernel⟩, by decide +kernel⟩
theorem okL_sort : gOkH yL_sort cL_sort 6 (some .int) [(0, 13, 16, 19)] 5 := ⟨q941, q35, ⟨by decide +kernel, by decide +kernel⟩, by decide +kernel⟩
theorem okX4_sort : gOk yX4_sort cX4_sort 4 (some .int) 3 := ⟨q1316, q38, ⟨by decide +kernel, by decide +kernel⟩, by decide +kernel⟩
theorem okL_longest : gOkH yL_longest cL_longest 5 (some .int) [(0, 11, 14, 19)] 4 := ⟨q952, q35, ⟨by decide +kernel, by decide +kernel⟩, by decide +kernel⟩
theorem okX4_longest : gOk yX4_longest cX4_longest 3 (some .int) 2 := ⟨q1320, q38, ⟨by decide +kernel, by decide +kernel⟩, by decide +kernel⟩
theorem okL_pieces : gOkH yL_pieces cL_pieces 4 (some .int) [(0, 10, 13, 19)] 3 := ⟨q959, q35, ⟨by decide +kernel, by decide +kernel⟩, by decide +kernel⟩
theorem okX4_pieces : gOk yX4_pieces cX4_pieces 2 (some .int) 1 := ⟨q1324, q38, ⟨by decide +kernel, by decide +kernel⟩, by decide +kernel⟩
theorem okL_piece : gOkH yL_piece cL_piece 6 (some .int) [(0, 13, 16, 19), (0, 13, 20, 21)] 5 := ⟨q967, q35, ⟨by decide +kernel, by decide +kernel⟩, by decide +kernel⟩
theorem okX4_piece : gOk yX4_piece cX4_piece 6 (some .int) 3 := ⟨q1332, q38, ⟨by decide +kernel, by decide +kernel⟩, by decide +kernel⟩
theorem okL_sorts : gOkH yL_sorts cL_sorts 4 (some .int) [(0, 9, 12, 19)] 3 := ⟨q975, q35, ⟨by decide +kernel, by decide +kernel⟩, by decide +kernel⟩
theorem okX4_sorts : gOk yX4_sorts cX4_sorts 4 (some (.object "java/lang/String")) 1 := ⟨q1336, q38, ⟨by decide +kernel, by decide +kernel⟩, by decide +kernel⟩
theorem okL_cuts : gOkH yL_cuts cL_cuts 4 (some .int) [(0, 10, 13, 19)] 3 := ⟨q983, q35, ⟨by decide +kernel, by decide +kernel⟩, by decide +kernel⟩
theorem okX4_cuts : gOk yX4_cuts cX4_cuts 2 (some .int) 1 := ⟨q1340, q38, ⟨by decide +kernel, by decide +kernel⟩, by decide +kernel⟩
theorem okL_back : gOkH yL_back cL_back 4 (some .int) [(0, 10, 13, 19)] 3 := ⟨q991, q35, ⟨by decide +kernel, by decide +kernel⟩, by decide +kernel⟩
theorem okX4_back : gOk yX4_back cX4_back 2 (some .int) 1 := ⟨q1348, q38, ⟨by decide +kernel, by decide +kernel⟩, by decide +kernel⟩
theorem okL_fewest : gOkH yL_fewest cL_fewest 4 (some .int) [(0, 10, 13, 19)] 3 := ⟨q999, q35, ⟨by decide +kernel, by decide +kernel⟩, by decide +kernel⟩
theorem okX4_fewest : gOk yX4_fewest cX4_fewest 2 (some .int) 1 := ⟨q1356, q38, ⟨by decide +kernel, by decide +kernel⟩, by decide +kernel⟩
theorem okL_parted : gOkH yL_parted cL_parted 5 (some .int) [(0, 11, 14, 19), (0, 11, 18, 21)] 4 := ⟨q1007, q35, ⟨by decide +kernel, by decide +kernel⟩, by decide +kernel⟩
theorem okX4_parted : gOk yX4_parted cX4_parted 5 (some .int) 2 := ⟨q1365, q38, ⟨by decide +kernel, by decide +kernel⟩, by decide +kernel⟩
theorem okL_house : gOkH yL_house cL_house 4 (some .int) [(0, 10, 13, 21)] 3 := ⟨q1015, q35, ⟨by decide +kernel, by decide +kernel⟩, by decide +kernel⟩
theorem okX4_house : gOk yX4_house cX4_house 2 (some .int) 1 := ⟨q1373, q38, ⟨by decide +kernel, by decide +kernel⟩, by decide +kernel⟩
theorem okX2_knock : gOk yX2_knock cX2_knock 1 (some .int) 0 := ⟨q100, q36, ⟨by decide +kernel, by decide +kernel⟩, by decide +kernel⟩
theorem okX4_knock : gOk yX4_knock cX4_knock 1 (some .int) 0 := ⟨q1381, q38, ⟨by decide +kernel, by decide +kernel⟩, by decide +kernel⟩
theorem okX4_isSound : gOk yX4_isSound cX4_isSound 2 (some .boolean) 0 := ⟨q1385, q38, ⟨by decide +kernel, by decide +kernel⟩, by decide +kernel⟩
theorem okX2_digest : gOk yX2_digest cX2_digest 4 (some .long) 0 := ⟨q190, q36, ⟨by decide +kernel, by decide +kernel⟩, by decide +kernel⟩
theorem okX4_digest : gOk yX4_digest cX4_digest 5 (some .long) 0 := ⟨q1394, q38, ⟨by decide +kernel, by decide +kernel⟩, by decide +kernel⟩
theorem okX2_init : gOk yX2_init cX2_init 2 none 0 := ⟨q61, q36, ⟨by decide +kernel, by decide +kernel⟩, by decide +kernel⟩
theorem okX4_init : gOk yX4_init cX4_init 1 none 0 := ⟨q1021, q38, ⟨by decide +kernel, by decide +kernel⟩, by decide +kernel⟩
theorem okX3_init : gOk yX3_init cX3_init 1 none 0 := ⟨q295, q39, ⟨by decide +kernel, by decide +kernel⟩, by decide +kernel⟩
abbrev rmc_X3_init : Room := { frames := 1, cells := 0, slots := 0, locals := 40 }
set_option maxRecDepth 100000 in
theorem c_X3_init {l : Launch} {s0 : State} {G : gK} {w : wd} (h0 : gS0 s0) (htr : l.stackTraces = false) {a : Nat} (ha : w a = some (eO 4 [.long 0, .null])) : gM l s0 G yX3_init [Cond.code yX3_init cX3_init 1 none] rmc_X3_init [rv a] w (fun v w' => v = none ∧ w' = w) (noX) := by
  refine g_of h0 htr (by decide +kernel) (Nat.le_of_ble_eq_true rfl) ?_
  intro b Z0 E
  have Z : gAm b l s0 G cX3_init RX3 1 rmc_X3_init := Z0
  refine x_el (L' := [(0, rv a)]) rfl ?_
  refine x_aload_n Z dX3_init_0 rfl rfl ?_
  refine x_objI Z q296 dX3_init_1 (Nat.le_of_ble_eq_true rfl) (Nat.le_of_ble_eq_true rfl) (Nat.le_of_ble_eq_true rfl) ?_
  exact x_vret Z E (⟨rfl, rfl⟩) dX3_init_4 (Nat.le_of_ble_eq_true rfl) (Nat.le_of_ble_eq_true rfl)
abbrev rmc_X4_thrown : Room := { frames := 0, cells := 0, slots := 0, locals := 0 }
set_option maxRecDepth 100000 in
theorem c_X4_thrown {l : Launch} {s0 : State} {G : gK} {w : wd} (h0 : gS0 s0) (htr : l.stackTraces = false) {R : rA} {S : rM} (hS : rS G w R S) : gM l s0 G yX4_thrown [Cond.code yX4_thrown cX4_thrown 1 (some .int)] rmc_X4_thrown [rv R.1] w (fun v w' => v = some (iv S.2.2.2.2.2.2) ∧ w' = w) (noX) := by
  refine g_of h0 htr (by decide +kernel) (Nat.le_of_ble_eq_true rfl) ?_
  intro b Z0 E
  have Z : gAm b l s0 G cX4_thrown RX4 1 rmc_X4_thrown := Z0
  refine x_el (L' := [(0, rv R.1)]) rfl ?_
  obtain ⟨hr1, hr2, ⟨f3, hr3, hf3⟩, hr4, hr5, hr6⟩ := id hS
  refine x_aload_n Z dX4_thrown_0 rfl rfl ?_
  refine x_getf (ci := 5) (j := 6) (C := RX4) (T := TX4) (N := 7) Z inX4g rfl (by decide) q1047 rfl dX4_thrown_1 (by assumption) rfl ?_
  exact x_iret Z E (⟨rfl, rfl⟩) dX4_thrown_4 (Nat.le_of_ble_eq_true rfl) (Nat.le_of_ble_eq_true rfl)
set_option maxRecDepth 100000 in
theorem arm_0 {b : gBt} {l : Launch} {s0 : State} {G : gK} (h0 : gS0 s0) (htr : l.stackTraces = false) (Z : gAm b l s0 G cL_law RL 7 room_1) {sa Ls : Nat} {xs : Nat → Int32} (hX : lX b s0 sa Ls xs) {k n : Nat} {K : kA} {R : rA} {oc : Nat} {w : wd} {i : Int} (hI : lI G w K R oc) (hi0 : 0 ≤ i) (hi4 : i + 4 ≤ Ls) (hk : k + 400 ≤ 755723) (hn : n + 40000 ≤ 6834312) (join2244 : ∀ w2 : wd, lI G w2 K R oc → gX b s0 G (k + 400) (n + 40000) 2244 [(4, iv i), (0, rv sa), (1, rv K.1), (2, rv R.1), (3, rv oc)] [] w2) : gX b s0 G k n 256 [(4, iv i), (0, rv sa), (1, rv K.1), (2, rv R.1), (3, rv oc)] [] w := by
  obtain ⟨-, -, -, hLs⟩ := id hX
  obtain ⟨M, S, yo, sv, hC⟩ := id hI
  obtain ⟨hS, hR2, ho, hd, hd2, hd3, hcp⟩ := id hC
  refine x_aload_n Z dL_law_256 rfl rfl ?_
  refine x_aload_n Z dL_law_257 rfl rfl ?_
  refine x_iload Z dL_law_258 rfl ?_
  refine x_iconst Z dL_law_260 ?_
  refine x_iadd Z dL_law_261 ?_
  refine x_sld Z hX (by omega) (by omega) dL_law_262 (fun hz262 => ?_)
  refine x_aload_n Z dL_law_263 rfl rfl ?_
  refine x_iload Z dL_law_264 rfl ?_
  refine x_iconst Z dL_law_266 ?_
  refine x_iadd Z dL_law_267 ?_
  refine x_sld Z hX (by omega) (by omega) dL_law_268 (fun hz268 => ?_)
  refine x_aload_n Z dL_law_269 rfl rfl ?_
  refine x_callSH Z okL_add q304 q305 dL_law_270 (c_L_add h0 htr hS (by assumption) (by assumption) ho hd) ⟨Nat.le_of_ble_eq_true rfl, Nat.le_of_ble_eq_true rfl, (by show _ + 2 ≤ 755723; omega), (by show _ + 12 ≤ 6834312; omega)⟩ rfl rfl (Nat.le_of_ble_eq_true rfl) (fun v9 w9 hR => ?_)
  obtain ⟨z5, rfl, hcl⟩ := hR
  have hSk0 := hS
  have hSr := hC.actS hcl
  simp only [Option.toList_some, Option.toList_none, List.cons_append, List.nil_append]
  refine x_istore (L' := [(5, _), (4, _), (0, _), (1, _), (2, _), (3, _)]) Z dL_law_273 (Nat.le_of_ble_eq_true rfl) rfl ?_
  refine x_aload_n Z dL_law_275 rfl rfl ?_
  refine x_aload_n Z dL_law_276 rfl rfl ?_
  refine x_iload Z dL_law_277 rfl ?_
  refine x_iconst Z dL_law_279 ?_
  refine x_iadd Z dL_law_280 ?_
  refine x_sld Z hX (by omega) (by omega) dL_law_281 (fun hz281 => ?_)
  refine x_aload_n Z dL_law_282 rfl rfl ?_
  refine x_iload Z dL_law_283 rfl ?_
  refine x_iconst Z dL_law_285 ?_
  refine x_iadd Z dL_law_286 ?_
  refine x_sld Z hX (by omega) (by omega) dL_law_287 (fun hz287 => ?_)
  refine x_callV (ci := 5) (C := RX4) (T := TX4) (N := 7) Z okX4_add q1067 q1068 q1069 rfl dL_law_288 (c_X4_add h0 htr hSr (by assumption) (by assumption)) hSr.1 ⟨Nat.le_of_ble_eq_true rfl, Nat.le_of_ble_eq_true rfl, (by show _ + 0 ≤ 755723; omega), (by show _ + 0 ≤ 6834312; omega)⟩ rfl rfl (Nat.le_of_ble_eq_true rfl) (fun v9 w9 hR => ?_)
  obtain ⟨z6, rfl, hA6⟩ := hR
  obtain ⟨S6, y6, hI, hS6, hT6, ho6, hy6, hz50, hz52⟩ := hC.act hcl hA6 (Iff.rfl) (fun _ => Iff.rfl) (fun h _ => acAdd_cg hcp.v h.1 h.2 (hSk0.n0 h.1 h.2))
  simp only [Option.toList_some, Option.toList_none, List.cons_append, List.nil_append]
  refine x_istore (L' := [(6, _), (5, _), (4, _), (0, _), (1, _), (2, _), (3, _)]) Z dL_law_291 (Nat.le_of_ble_eq_true rfl) rfl ?_
  refine x_goto Z 2244 dL_law_293 (by decide) ?_
  refine x_sub [2, 3, 4, 5, 6] rfl ?_
  refine x_wd (k' := k + 400) (n' := n + 40000) (by omega) (by omega) ?_
  exact join2244 _ hI
set_option maxRecDepth 100000 in
theorem arm_1 {b : gBt} {l : Launch} {s0 : State} {G : gK} (h0 : gS0 s0) (htr : l.stackTraces = false) (Z : gAm b l s0 G cL_law RL 7 room_1) {sa Ls : Nat} {xs : Nat → Int32} (hX : lX b s0 sa Ls xs) {k n : Nat} {K : kA} {R : rA} {oc : Nat} {w : wd} {i : Int} (hI : lI G w K R oc) (hi0 : 0 ≤ i) (hi4 : i + 4 ≤ Ls) (hk : k + 400 ≤ 755723) (hn : n + 40000 ≤ 6834312) (join2244 : ∀ w2 : wd, lI G w2 K R oc → gX b s0 G (k + 400) (n + 40000) 2244 [(4, iv i), (0, rv sa), (1, rv K.1), (2, rv R.1), (3, rv oc)] [] w2) : gX b s0 G k n 296 [(4, iv i), (0, rv sa), (1, rv K.1), (2, rv R.1), (3, rv oc)] [] w := by
  obtain ⟨-, -, -, hLs⟩ := id hX
  obtain ⟨M, S, yo, sv, hC⟩ := id hI
  obtain ⟨hS, hR2, ho, hd, hd2, hd3, hcp⟩ := id hC
  refine x_aload_n Z dL_law_296 rfl rfl ?_
  refine x_aload_n Z dL_law_297 rfl rfl ?_
  refine x_iload Z dL_law_298 rfl ?_
  refine x_iconst Z dL_law_300 ?_
  refine x_iadd Z dL_law_301 ?_
  refine x_sld Z hX (by omega) (by omega) dL_law_302 (fun hz302 => ?_)
  refine x_aload_n Z dL_law_303 rfl rfl ?_
  refine x_iload Z dL_law_304 rfl ?_
  refine x_iconst Z dL_law_306 ?_
  refine x_iadd Z dL_law_307 ?_
  refine x_sld Z hX (by omega) (by omega) dL_law_308 (fun hz308 => ?_)
  refine x_aload_n Z dL_law_309 rfl rfl ?_
  refine x_iload Z dL_law_310 rfl ?_
  refine x_iconst Z dL_law_312 ?_
  refine x_iadd Z dL_law_313 ?_
  refine x_sld Z hX (by omega) (by omega) dL_law_314 (fun hz314 => ?_)
  refine x_aload_n Z dL_law_315 rfl rfl ?_
  refine x_callSH Z okL_put q355 q356 dL_law_316 (c_L_put h0 htr hS (by assumption) (by assumption) (by assumption) ho hd) ⟨Nat.le_of_ble_eq_true rfl, Nat.le_of_ble_eq_true rfl, (by show _ + 3 ≤ 755723; omega), (by show _ + 18 ≤ 6834312; omega)⟩ rfl rfl (Nat.le_of_ble_eq_true rfl) (fun v9 w9 hR => ?_)
  obtain ⟨z5, rfl, hcl⟩ := hR
  have hSk0 := hS
  have hSr := hC.actS hcl
  simp only [Option.toList_some, Option.toList_none, List.cons_append, List.nil_append]
  refine x_istore (L' := [(5, _), (4, _), (0, _), (1, _), (2, _), (3, _)]) Z dL_law_319 (Nat.le_of_ble_eq_true rfl) rfl ?_
  refine x_aload_n Z dL_law_321 rfl rfl ?_
  refine x_aload_n Z dL_law_322 rfl rfl ?_
  refine x_iload Z dL_law_323 rfl ?_
  refine x_iconst Z dL_law_325 ?_
  refine x_iadd Z dL_law_326 ?_
  refine x_sld Z hX (by omega) (by omega) dL_law_327 (fun hz327 => ?_)
  refine x_aload_n Z dL_law_328 rfl rfl ?_
  refine x_iload Z dL_law_329 rfl ?_
  refine x_iconst Z dL_law_331 ?_
  refine x_iadd Z dL_law_332 ?_
  refine x_sld Z hX (by omega) (by omega) dL_law_333 (fun hz333 => ?_)
  refine x_aload_n Z dL_law_334 rfl rfl ?_
  refine x_iload Z dL_law_335 rfl ?_
  refine x_iconst Z dL_law_337 ?_
  refine x_iadd Z dL_law_338 ?_
  refine x_sld Z hX (by omega) (by omega) dL_law_339 (fun hz339 => ?_)
  refine x_callV (ci := 5) (C := RX4) (T := TX4) (N := 7) Z okX4_put q1093 q1094 q1095 rfl dL_law_340 (c_X4_put h0 htr hSr (by assumption) (by assumption) (by assumption)) hSr.1 ⟨Nat.le_of_ble_eq_true rfl, Nat.le_of_ble_eq_true rfl, (by show _ + 0 ≤ 755723; omega), (by show _ + 0 ≤ 6834312; omega)⟩ rfl rfl (Nat.le_of_ble_eq_true rfl) (fun v9 w9 hR => ?_)
  obtain ⟨z6, rfl, hA6⟩ := hR
  obtain ⟨S6, y6, hI, hS6, hT6, ho6, hy6, hz50, hz52⟩ := hC.act hcl hA6 (⟨fun h => by have e := (hcp.1 _ h.1.1 h.1.2).1; omega, fun h => by have e := (hcp.1 _ h.1.1 h.1.2).1; omega⟩) (fun _ => Iff.rfl) (fun h _ => acPut_cg hcp.v h.1.1 h.1.2 h.2.1 h.2.2)
  simp only [Option.toList_some, Option.toList_none, List.cons_append, List.nil_append]
  refine x_istore (L' := [(6, _), (5, _), (4, _), (0, _), (1, _), (2, _), (3, _)]) Z dL_law_343 (Nat.le_of_ble_eq_true rfl) rfl ?_
  refine x_goto Z 2244 dL_law_345 (by decide) ?_
  refine x_sub [2, 3, 4, 5, 6] rfl ?_
  refine x_wd (k' := k + 400) (n' := n + 40000) (by omega) (by omega) ?_
  exact join2244 _ hI
set_option maxRecDepth 100000 in
theorem arm_2 {b : gBt} {l : Launch} {s0 : State} {G : gK} (h0 : gS0 s0) (htr : l.stackTraces = false) (Z : gAm b l s0 G cL_law RL 7 room_1) {sa Ls : Nat} {xs : Nat → Int32} (hX : lX b s0 sa Ls xs) {k n : Nat} {K : kA} {R : rA} {oc : Nat} {w : wd} {i : Int} (hI : lI G w K R oc) (hi0 : 0 ≤ i) (hi4 : i + 4 ≤ Ls) (hk : k + 400 ≤ 755723) (hn : n + 40000 ≤ 6834312) (join2244 : ∀ w2 : wd, lI G w2 K R oc → gX b s0 G (k + 400) (n + 40000) 2244 [(4, iv i), (0, rv sa), (1, rv K.1), (2, rv R.1), (3, rv oc)] [] w2) : gX b s0 G k n 348 [(4, iv i), (0, rv sa), (1, rv K.1), (2, rv R.1), (3, rv oc)] [] w := by
  obtain ⟨-, -, -, hLs⟩ := id hX
  obtain ⟨M, S, yo, sv, hC⟩ := id hI
  obtain ⟨hS, hR2, ho, hd, hd2, hd3, hcp⟩ := id hC
  refine x_aload_n Z dL_law_348 rfl rfl ?_
  refine x_aload_n Z dL_law_349 rfl rfl ?_
  refine x_iload Z dL_law_350 rfl ?_
  refine x_iconst Z dL_law_352 ?_
  refine x_iadd Z dL_law_353 ?_
  refine x_sld Z hX (by omega) (by omega) dL_law_354 (fun hz354 => ?_)
  refine x_aload_n Z dL_law_355 rfl rfl ?_
  refine x_iload Z dL_law_356 rfl ?_
  refine x_iconst Z dL_law_358 ?_
  refine x_iadd Z dL_law_359 ?_
  refine x_sld Z hX (by omega) (by omega) dL_law_360 (fun hz360 => ?_)
  refine x_aload_n Z dL_law_361 rfl rfl ?_
  refine x_iload Z dL_law_362 rfl ?_
  refine x_iconst Z dL_law_364 ?_
  refine x_iadd Z dL_law_365 ?_
  refine x_sld Z hX (by omega) (by omega) dL_law_366 (fun hz366 => ?_)
  refine x_aload_n Z dL_law_367 rfl rfl ?_
  refine x_callSH Z okL_insert q367 q368 dL_law_368 (c_L_insert h0 htr hS (by assumption) (by assumption) (by assumption) ho hd) ⟨Nat.le_of_ble_eq_true rfl, Nat.le_of_ble_eq_true rfl, (by show _ + 3 ≤ 755723; omega), (by show _ + 18 ≤ 6834312; omega)⟩ rfl rfl (Nat.le_of_ble_eq_true rfl) (fun v9 w9 hR => ?_)
  obtain ⟨z5, rfl, hcl⟩ := hR
  have hSk0 := hS
  have hSr := hC.actS hcl
  simp only [Option.toList_some, Option.toList_none, List.cons_append, List.nil_append]
  refine x_istore (L' := [(5, _), (4, _), (0, _), (1, _), (2, _), (3, _)]) Z dL_law_371 (Nat.le_of_ble_eq_true rfl) rfl ?_
  refine x_aload_n Z dL_law_373 rfl rfl ?_
  refine x_aload_n Z dL_law_374 rfl rfl ?_
  refine x_iload Z dL_law_375 rfl ?_
  refine x_iconst Z dL_law_377 ?_
  refine x_iadd Z dL_law_378 ?_
  refine x_sld Z hX (by omega) (by omega) dL_law_379 (fun hz379 => ?_)
  refine x_aload_n Z dL_law_380 rfl rfl ?_
  refine x_iload Z dL_law_381 rfl ?_
  refine x_iconst Z dL_law_383 ?_
  refine x_iadd Z dL_law_384 ?_
  refine x_sld Z hX (by omega) (by omega) dL_law_385 (fun hz385 => ?_)
  refine x_aload_n Z dL_law_386 rfl rfl ?_
  refine x_iload Z dL_law_387 rfl ?_
  refine x_iconst Z dL_law_389 ?_
  refine x_iadd Z dL_law_390 ?_
  refine x_sld Z hX (by omega) (by omega) dL_law_391 (fun hz391 => ?_)
  refine x_callV (ci := 5) (C := RX4) (T := TX4) (N := 7) Z okX4_insert q1101 q1082 q1083 rfl dL_law_392 (c_X4_insert h0 htr hSr (by assumption) (by assumption) (by assumption)) hSr.1 ⟨Nat.le_of_ble_eq_true rfl, Nat.le_of_ble_eq_true rfl, (by show _ + 0 ≤ 755723; omega), (by show _ + 0 ≤ 6834312; omega)⟩ rfl rfl (Nat.le_of_ble_eq_true rfl) (fun v9 w9 hR => ?_)
  obtain ⟨z6, rfl, hA6⟩ := hR
  obtain ⟨S6, y6, hI, hS6, hT6, ho6, hy6, hz50, hz52⟩ := hC.act hcl hA6 (⟨fun h => by have e := (hcp.1 _ h.1.1 h.1.2).1; omega, fun h => by have e := (hcp.1 _ h.1.1 h.1.2).1; omega⟩) (fun _ => Iff.rfl) (fun h _ => acIns_cg hcp.v h.1.1 h.1.2 h.2.1 h.2.2)
  simp only [Option.toList_some, Option.toList_none, List.cons_append, List.nil_append]
  refine x_istore (L' := [(6, _), (5, _), (4, _), (0, _), (1, _), (2, _), (3, _)]) Z dL_law_395 (Nat.le_of_ble_eq_true rfl) rfl ?_
  refine x_goto Z 2244 dL_law_397 (by decide) ?_
  refine x_sub [2, 3, 4, 5, 6] rfl ?_
  refine x_wd (k' := k + 400) (n' := n + 40000) (by omega) (by omega) ?_
  exact join2244 _ hI
set_option maxRecDepth 100000 in
theorem arm_3 {b : gBt} {l : Launch} {s0 : State} {G : gK} (h0 : gS0 s0) (htr : l.stackTraces = false) (Z : gAm b l s0 G cL_law RL 7 room_1) {sa Ls : Nat} {xs : Nat → Int32} (hX : lX b s0 sa Ls xs) {k n : Nat} {K : kA} {R : rA} {oc : Nat} {w : wd} {i : Int} (hI : lI G w K R oc) (hi0 : 0 ≤ i) (hi4 : i + 4 ≤ Ls) (hk : k + 400 ≤ 755723) (hn : n + 40000 ≤ 6834312) (join2244 : ∀ w2 : wd, lI G w2 K R oc → gX b s0 G (k + 400) (n + 40000) 2244 [(4, iv i), (0, rv sa), (1, rv K.1), (2, rv R.1), (3, rv oc)] [] w2) : gX b s0 G k n 400 [(4, iv i), (0, rv sa), (1, rv K.1), (2, rv R.1), (3, rv oc)] [] w := by
  obtain ⟨-, -, -, hLs⟩ := id hX
  obtain ⟨M, S, yo, sv, hC⟩ := id hI
  obtain ⟨hS, hR2, ho, hd, hd2, hd3, hcp⟩ := id hC
  refine x_aload_n Z dL_law_400 rfl rfl ?_
  refine x_aload_n Z dL_law_401 rfl rfl ?_
  refine x_iload Z dL_law_402 rfl ?_
  refine x_iconst Z dL_law_404 ?_
  refine x_iadd Z dL_law_405 ?_
  refine x_sld Z hX (by omega) (by omega) dL_law_406 (fun hz406 => ?_)
  refine x_aload_n Z dL_law_407 rfl rfl ?_
  refine x_iload Z dL_law_408 rfl ?_
  refine x_iconst Z dL_law_410 ?_
  refine x_iadd Z dL_law_411 ?_
  refine x_sld Z hX (by omega) (by omega) dL_law_412 (fun hz412 => ?_)
  refine x_aload_n Z dL_law_413 rfl rfl ?_
  refine x_callSH Z okL_drop q374 q375 dL_law_414 (c_L_drop h0 htr hS (by assumption) (by assumption) ho hd) ⟨Nat.le_of_ble_eq_true rfl, Nat.le_of_ble_eq_true rfl, (by show _ + 2 ≤ 755723; omega), (by show _ + 12 ≤ 6834312; omega)⟩ rfl rfl (Nat.le_of_ble_eq_true rfl) (fun v9 w9 hR => ?_)
  obtain ⟨z5, rfl, hcl⟩ := hR
  have hSk0 := hS
  have hSr := hC.actS hcl
  simp only [Option.toList_some, Option.toList_none, List.cons_append, List.nil_append]
  refine x_istore (L' := [(5, _), (4, _), (0, _), (1, _), (2, _), (3, _)]) Z dL_law_417 (Nat.le_of_ble_eq_true rfl) rfl ?_
  refine x_aload_n Z dL_law_419 rfl rfl ?_
  refine x_aload_n Z dL_law_420 rfl rfl ?_
  refine x_iload Z dL_law_421 rfl ?_
  refine x_iconst Z dL_law_423 ?_
  refine x_iadd Z dL_law_424 ?_
  refine x_sld Z hX (by omega) (by omega) dL_law_425 (fun hz425 => ?_)
  refine x_aload_n Z dL_law_426 rfl rfl ?_
  refine x_iload Z dL_law_427 rfl ?_
  refine x_iconst Z dL_law_429 ?_
  refine x_iadd Z dL_law_430 ?_
  refine x_sld Z hX (by omega) (by omega) dL_law_431 (fun hz431 => ?_)
  refine x_callV (ci := 5) (C := RX4) (T := TX4) (N := 7) Z okX4_drop q1102 q1103 q1104 rfl dL_law_432 (c_X4_drop h0 htr hSr (by assumption) (by assumption)) hSr.1 ⟨Nat.le_of_ble_eq_true rfl, Nat.le_of_ble_eq_true rfl, (by show _ + 0 ≤ 755723; omega), (by show _ + 0 ≤ 6834312; omega)⟩ rfl rfl (Nat.le_of_ble_eq_true rfl) (fun v9 w9 hR => ?_)
  obtain ⟨z6, rfl, hA6⟩ := hR
  obtain ⟨S6, y6, hI, hS6, hT6, ho6, hy6, hz50, hz52⟩ := hC.act hcl hA6 (⟨fun h => by have e := (hcp.1 _ h.1.1 h.1.2).1; omega, fun h => by have e := (hcp.1 _ h.1.1 h.1.2).1; omega⟩) (fun _ => Iff.rfl) (fun h _ => acDrop_cg hcp.v h.1.1 h.1.2 h.2.1 h.2.2)
  simp only [Option.toList_some, Option.toList_none, List.cons_append, List.nil_append]
  refine x_istore (L' := [(6, _), (5, _), (4, _), (0, _), (1, _), (2, _), (3, _)]) Z dL_law_435 (Nat.le_of_ble_eq_true rfl) rfl ?_
  refine x_goto Z 2244 dL_law_437 (by decide) ?_
  refine x_sub [2, 3, 4, 5, 6] rfl ?_
  refine x_wd (k' := k + 400) (n' := n + 40000) (by omega) (by omega) ?_
  exact join2244 _ hI
set_option maxRecDepth 100000 in
theorem arm_4 {b : gBt} {l : Launch} {s0 : State} {G : gK} (h0 : gS0 s0) (htr : l.stackTraces = false) (Z : gAm b l s0 G cL_law RL 7 room_1) {sa Ls : Nat} {xs : Nat → Int32} (hX : lX b s0 sa Ls xs) {k n : Nat} {K : kA} {R : rA} {oc : Nat} {w : wd} {i : Int} (hI : lI G w K R oc) (hi0 : 0 ≤ i) (hi4 : i + 4 ≤ Ls) (hk : k + 400 ≤ 755723) (hn : n + 40000 ≤ 6834312) (join2244 : ∀ w2 : wd, lI G w2 K R oc → gX b s0 G (k + 400) (n + 40000) 2244 [(4, iv i), (0, rv sa), (1, rv K.1), (2, rv R.1), (3, rv oc)] [] w2) : gX b s0 G k n 440 [(4, iv i), (0, rv sa), (1, rv K.1), (2, rv R.1), (3, rv oc)] [] w := by
  obtain ⟨-, -, -, hLs⟩ := id hX
  obtain ⟨M, S, yo, sv, hC⟩ := id hI
  obtain ⟨hS, hR2, ho, hd, hd2, hd3, hcp⟩ := id hC
  refine x_aload_n Z dL_law_440 rfl rfl ?_
  refine x_aload_n Z dL_law_441 rfl rfl ?_
  refine x_iload Z dL_law_442 rfl ?_
  refine x_iconst Z dL_law_444 ?_
  refine x_iadd Z dL_law_445 ?_
  refine x_sld Z hX (by omega) (by omega) dL_law_446 (fun hz446 => ?_)
  refine x_aload_n Z dL_law_447 rfl rfl ?_
  refine x_callSH Z okL_clear q389 q390 dL_law_448 (c_L_clear h0 htr hS (by assumption) ho hd) ⟨Nat.le_of_ble_eq_true rfl, Nat.le_of_ble_eq_true rfl, (by show _ + 1 ≤ 755723; omega), (by show _ + 6 ≤ 6834312; omega)⟩ rfl rfl (Nat.le_of_ble_eq_true rfl) (fun v9 w9 hR => ?_)
  obtain ⟨z5, rfl, hcl⟩ := hR
  have hSk0 := hS
  have hSr := hC.actS hcl
  simp only [Option.toList_some, Option.toList_none, List.cons_append, List.nil_append]
  refine x_istore (L' := [(5, _), (4, _), (0, _), (1, _), (2, _), (3, _)]) Z dL_law_451 (Nat.le_of_ble_eq_true rfl) rfl ?_
  refine x_aload_n Z dL_law_453 rfl rfl ?_
  refine x_aload_n Z dL_law_454 rfl rfl ?_
  refine x_iload Z dL_law_455 rfl ?_
  refine x_iconst Z dL_law_457 ?_
  refine x_iadd Z dL_law_458 ?_
  refine x_sld Z hX (by omega) (by omega) dL_law_459 (fun hz459 => ?_)
  refine x_callV (ci := 5) (C := RX4) (T := TX4) (N := 7) Z okX4_clear q1110 q1111 q1112 rfl dL_law_460 (c_X4_clear h0 htr hSr (by assumption)) hSr.1 ⟨Nat.le_of_ble_eq_true rfl, Nat.le_of_ble_eq_true rfl, (by show _ + 0 ≤ 755723; omega), (by show _ + 0 ≤ 6834312; omega)⟩ rfl rfl (Nat.le_of_ble_eq_true rfl) (fun v9 w9 hR => ?_)
  obtain ⟨z6, rfl, hA6⟩ := hR
  obtain ⟨S6, y6, hI, hS6, hT6, ho6, hy6, hz50, hz52⟩ := hC.act hcl hA6 (Iff.rfl) (fun _ => Iff.rfl) (fun h _ => acClear_cg hcp.v h.1 h.2)
  simp only [Option.toList_some, Option.toList_none, List.cons_append, List.nil_append]
  refine x_istore (L' := [(6, _), (5, _), (4, _), (0, _), (1, _), (2, _), (3, _)]) Z dL_law_463 (Nat.le_of_ble_eq_true rfl) rfl ?_
  refine x_goto Z 2244 dL_law_465 (by decide) ?_
  refine x_sub [2, 3, 4, 5, 6] rfl ?_
  refine x_wd (k' := k + 400) (n' := n + 40000) (by omega) (by omega) ?_
  exact join2244 _ hI
set_option maxRecDepth 100000 in
theorem arm_5 {b : gBt} {l : Launch} {s0 : State} {G : gK} (h0 : gS0 s0) (htr : l.stackTraces = false) (Z : gAm b l s0 G cL_law RL 7 room_1) {sa Ls : Nat} {xs : Nat → Int32} (hX : lX b s0 sa Ls xs) {k n : Nat} {K : kA} {R : rA} {oc : Nat} {w : wd} {i : Int} (hI : lI G w K R oc) (hi0 : 0 ≤ i) (hi4 : i + 4 ≤ Ls) (hk : k + 400 ≤ 755723) (hn : n + 40000 ≤ 6834312) (join2244 : ∀ w2 : wd, lI G w2 K R oc → gX b s0 G (k + 400) (n + 40000) 2244 [(4, iv i), (0, rv sa), (1, rv K.1), (2, rv R.1), (3, rv oc)] [] w2) : gX b s0 G k n 468 [(4, iv i), (0, rv sa), (1, rv K.1), (2, rv R.1), (3, rv oc)] [] w := by
  obtain ⟨-, -, -, hLs⟩ := id hX
  obtain ⟨M, S, yo, sv, hC⟩ := id hI
  obtain ⟨hS, hR2, ho, hd, hd2, hd3, hcp⟩ := id hC
  refine x_aload_n Z dL_law_468 rfl rfl ?_
  refine x_aload_n Z dL_law_469 rfl rfl ?_
  refine x_iload Z dL_law_470 rfl ?_
  refine x_iconst Z dL_law_472 ?_
  refine x_iadd Z dL_law_473 ?_
  refine x_sld Z hX (by omega) (by omega) dL_law_474 (fun hz474 => ?_)
  refine x_aload_n Z dL_law_475 rfl rfl ?_
  refine x_iload Z dL_law_476 rfl ?_
  refine x_iconst Z dL_law_478 ?_
  refine x_iadd Z dL_law_479 ?_
  refine x_sld Z hX (by omega) (by omega) dL_law_480 (fun hz480 => ?_)
  refine x_aload_n Z dL_law_481 rfl rfl ?_
  refine x_callSH Z okL_copy q396 q397 dL_law_482 (c_L_copy h0 htr hS (by assumption) (by assumption) ho hd) ⟨Nat.le_of_ble_eq_true rfl, Nat.le_of_ble_eq_true rfl, (by show _ + 2 ≤ 755723; omega), (by show _ + 12 ≤ 6834312; omega)⟩ rfl rfl (Nat.le_of_ble_eq_true rfl) (fun v9 w9 hR => ?_)
  obtain ⟨z5, rfl, hcl⟩ := hR
  have hSk0 := hS
  have hSr := hC.actS hcl
  simp only [Option.toList_some, Option.toList_none, List.cons_append, List.nil_append]
  refine x_istore (L' := [(5, _), (4, _), (0, _), (1, _), (2, _), (3, _)]) Z dL_law_485 (Nat.le_of_ble_eq_true rfl) rfl ?_
  refine x_aload_n Z dL_law_487 rfl rfl ?_
  refine x_aload_n Z dL_law_488 rfl rfl ?_
  refine x_iload Z dL_law_489 rfl ?_
  refine x_iconst Z dL_law_491 ?_
  refine x_iadd Z dL_law_492 ?_
  refine x_sld Z hX (by omega) (by omega) dL_law_493 (fun hz493 => ?_)
  refine x_aload_n Z dL_law_494 rfl rfl ?_
  refine x_iload Z dL_law_495 rfl ?_
  refine x_iconst Z dL_law_497 ?_
  refine x_iadd Z dL_law_498 ?_
  refine x_sld Z hX (by omega) (by omega) dL_law_499 (fun hz499 => ?_)
  refine x_callV (ci := 5) (C := RX4) (T := TX4) (N := 7) Z okX4_copy q1114 q1115 q1116 rfl dL_law_500 (c_X4_copy h0 htr hSr (by assumption) (by assumption)) hSr.1 ⟨Nat.le_of_ble_eq_true rfl, Nat.le_of_ble_eq_true rfl, (by show _ + 1 ≤ 755723; omega), (by show _ + 30 ≤ 6834312; omega)⟩ rfl rfl (Nat.le_of_ble_eq_true rfl) (fun v9 w9 hR => ?_)
  obtain ⟨z6, rfl, hA6⟩ := hR
  obtain ⟨S6, y6, hI, hS6, hT6, ho6, hy6, hz50, hz52⟩ := hC.act hcl hA6 (Iff.rfl) (fun _ => Iff.rfl) (fun h _ => acCopy_cg hcp.v h.1.1 h.1.2)
  simp only [Option.toList_some, Option.toList_none, List.cons_append, List.nil_append]
  refine x_istore (L' := [(6, _), (5, _), (4, _), (0, _), (1, _), (2, _), (3, _)]) Z dL_law_503 (Nat.le_of_ble_eq_true rfl) rfl ?_
  refine x_goto Z 2244 dL_law_505 (by decide) ?_
  refine x_sub [2, 3, 4, 5, 6] rfl ?_
  refine x_wd (k' := k + 400) (n' := n + 40000) (by omega) (by omega) ?_
  exact join2244 _ hI
set_option maxRecDepth 100000 in
theorem arm_6 {b : gBt} {l : Launch} {s0 : State} {G : gK} (h0 : gS0 s0) (htr : l.stackTraces = false) (Z : gAm b l s0 G cL_law RL 7 room_1) {sa Ls : Nat} {xs : Nat → Int32} (hX : lX b s0 sa Ls xs) {k n : Nat} {K : kA} {R : rA} {oc : Nat} {w : wd} {i : Int} (hI : lI G w K R oc) (hi0 : 0 ≤ i) (hi4 : i + 4 ≤ Ls) (hk : k + 400 ≤ 755723) (hn : n + 40000 ≤ 6834312) (join2244 : ∀ w2 : wd, lI G w2 K R oc → gX b s0 G (k + 400) (n + 40000) 2244 [(4, iv i), (0, rv sa), (1, rv K.1), (2, rv R.1), (3, rv oc)] [] w2) : gX b s0 G k n 508 [(4, iv i), (0, rv sa), (1, rv K.1), (2, rv R.1), (3, rv oc)] [] w := by
  obtain ⟨-, -, -, hLs⟩ := id hX
  obtain ⟨M, S, yo, sv, hC⟩ := id hI
  obtain ⟨hS, hR2, ho, hd, hd2, hd3, hcp⟩ := id hC
  refine x_aload_n Z dL_law_508 rfl rfl ?_
  refine x_aload_n Z dL_law_509 rfl rfl ?_
  refine x_iload Z dL_law_510 rfl ?_
  refine x_iconst Z dL_law_512 ?_
  refine x_iadd Z dL_law_513 ?_
  refine x_sld Z hX (by omega) (by omega) dL_law_514 (fun hz514 => ?_)
  refine x_aload_n Z dL_law_515 rfl rfl ?_
  refine x_iload Z dL_law_516 rfl ?_
  refine x_iconst Z dL_law_518 ?_
  refine x_iadd Z dL_law_519 ?_
  refine x_sld Z hX (by omega) (by omega) dL_law_520 (fun hz520 => ?_)
  refine x_aload_n Z dL_law_521 rfl rfl ?_
  refine x_callSH Z okL_join q407 q408 dL_law_522 (c_L_join h0 htr hS (by assumption) (by assumption) ho hd) ⟨Nat.le_of_ble_eq_true rfl, Nat.le_of_ble_eq_true rfl, (by show _ + 2 ≤ 755723; omega), (by show _ + 12 ≤ 6834312; omega)⟩ rfl rfl (Nat.le_of_ble_eq_true rfl) (fun v9 w9 hR => ?_)
  obtain ⟨z5, rfl, hcl⟩ := hR
  have hSk0 := hS
  have hSr := hC.actS hcl
  simp only [Option.toList_some, Option.toList_none, List.cons_append, List.nil_append]
  refine x_istore (L' := [(5, _), (4, _), (0, _), (1, _), (2, _), (3, _)]) Z dL_law_525 (Nat.le_of_ble_eq_true rfl) rfl ?_
  refine x_aload_n Z dL_law_527 rfl rfl ?_
  refine x_aload_n Z dL_law_528 rfl rfl ?_
  refine x_iload Z dL_law_529 rfl ?_
  refine x_iconst Z dL_law_531 ?_
  refine x_iadd Z dL_law_532 ?_
  refine x_sld Z hX (by omega) (by omega) dL_law_533 (fun hz533 => ?_)
  refine x_aload_n Z dL_law_534 rfl rfl ?_
  refine x_iload Z dL_law_535 rfl ?_
  refine x_iconst Z dL_law_537 ?_
  refine x_iadd Z dL_law_538 ?_
  refine x_sld Z hX (by omega) (by omega) dL_law_539 (fun hz539 => ?_)
  refine x_callV (ci := 5) (C := RX4) (T := TX4) (N := 7) Z okX4_join q1122 q1123 q1124 rfl dL_law_540 (c_X4_join h0 htr hSr (by assumption) (by assumption)) hSr.1 ⟨Nat.le_of_ble_eq_true rfl, Nat.le_of_ble_eq_true rfl, (by show _ + 0 ≤ 755723; omega), (by show _ + 0 ≤ 6834312; omega)⟩ rfl rfl (Nat.le_of_ble_eq_true rfl) (fun v9 w9 hR => ?_)
  obtain ⟨z6, rfl, hA6⟩ := hR
  obtain ⟨S6, y6, hI, hS6, hT6, ho6, hy6, hz50, hz52⟩ := hC.act hcl hA6 (Iff.rfl) (fun _ => Iff.rfl) (fun h _ => acJoin_cg hcp.v h.1.1 h.1.2 h.2.1 h.2.2)
  simp only [Option.toList_some, Option.toList_none, List.cons_append, List.nil_append]
  refine x_istore (L' := [(6, _), (5, _), (4, _), (0, _), (1, _), (2, _), (3, _)]) Z dL_law_543 (Nat.le_of_ble_eq_true rfl) rfl ?_
  refine x_goto Z 2244 dL_law_545 (by decide) ?_
  refine x_sub [2, 3, 4, 5, 6] rfl ?_
  refine x_wd (k' := k + 400) (n' := n + 40000) (by omega) (by omega) ?_
  exact join2244 _ hI
set_option maxRecDepth 100000 in
theorem arm_7 {b : gBt} {l : Launch} {s0 : State} {G : gK} (h0 : gS0 s0) (htr : l.stackTraces = false) (Z : gAm b l s0 G cL_law RL 7 room_1) {sa Ls : Nat} {xs : Nat → Int32} (hX : lX b s0 sa Ls xs) {k n : Nat} {K : kA} {R : rA} {oc : Nat} {w : wd} {i : Int} (hI : lI G w K R oc) (hi0 : 0 ≤ i) (hi4 : i + 4 ≤ Ls) (hk : k + 400 ≤ 755723) (hn : n + 40000 ≤ 6834312) (join2244 : ∀ w2 : wd, lI G w2 K R oc → gX b s0 G (k + 400) (n + 40000) 2244 [(4, iv i), (0, rv sa), (1, rv K.1), (2, rv R.1), (3, rv oc)] [] w2) : gX b s0 G k n 548 [(4, iv i), (0, rv sa), (1, rv K.1), (2, rv R.1), (3, rv oc)] [] w := by
  obtain ⟨-, -, -, hLs⟩ := id hX
  obtain ⟨M, S, yo, sv, hC⟩ := id hI
  obtain ⟨hS, hR2, ho, hd, hd2, hd3, hcp⟩ := id hC
  refine x_aload_n Z dL_law_548 rfl rfl ?_
  refine x_aload_n Z dL_law_549 rfl rfl ?_
  refine x_iload Z dL_law_550 rfl ?_
  refine x_iconst Z dL_law_552 ?_
  refine x_iadd Z dL_law_553 ?_
  refine x_sld Z hX (by omega) (by omega) dL_law_554 (fun hz554 => ?_)
  refine x_aload_n Z dL_law_555 rfl rfl ?_
  refine x_callSH Z okL_turn q418 q419 dL_law_556 (c_L_turn h0 htr hS (by assumption) ho hd) ⟨Nat.le_of_ble_eq_true rfl, Nat.le_of_ble_eq_true rfl, (by show _ + 1 ≤ 755723; omega), (by show _ + 6 ≤ 6834312; omega)⟩ rfl rfl (Nat.le_of_ble_eq_true rfl) (fun v9 w9 hR => ?_)
  obtain ⟨z5, rfl, hcl⟩ := hR
  have hSk0 := hS
  have hSr := hC.actS hcl
  simp only [Option.toList_some, Option.toList_none, List.cons_append, List.nil_append]
  refine x_istore (L' := [(5, _), (4, _), (0, _), (1, _), (2, _), (3, _)]) Z dL_law_559 (Nat.le_of_ble_eq_true rfl) rfl ?_
  refine x_aload_n Z dL_law_561 rfl rfl ?_
  refine x_aload_n Z dL_law_562 rfl rfl ?_
  refine x_iload Z dL_law_563 rfl ?_
  refine x_iconst Z dL_law_565 ?_
  refine x_iadd Z dL_law_566 ?_
  refine x_sld Z hX (by omega) (by omega) dL_law_567 (fun hz567 => ?_)
  refine x_callV (ci := 5) (C := RX4) (T := TX4) (N := 7) Z okX4_turn q1126 q1127 q1128 rfl dL_law_568 (c_X4_turn h0 htr hSr (by assumption)) hSr.1 ⟨Nat.le_of_ble_eq_true rfl, Nat.le_of_ble_eq_true rfl, (by show _ + 1 ≤ 755723; omega), (by show _ + 30 ≤ 6834312; omega)⟩ rfl rfl (Nat.le_of_ble_eq_true rfl) (fun v9 w9 hR => ?_)
  obtain ⟨z6, rfl, hA6⟩ := hR
  obtain ⟨S6, y6, hI, hS6, hT6, ho6, hy6, hz50, hz52⟩ := hC.act hcl hA6 (Iff.rfl) (fun _ => Iff.rfl) (fun h _ => acTurn_cg hcp.v h.1 h.2 (hSk0.n0 h.1 h.2))
  simp only [Option.toList_some, Option.toList_none, List.cons_append, List.nil_append]
  refine x_istore (L' := [(6, _), (5, _), (4, _), (0, _), (1, _), (2, _), (3, _)]) Z dL_law_571 (Nat.le_of_ble_eq_true rfl) rfl ?_
  refine x_goto Z 2244 dL_law_573 (by decide) ?_
  refine x_sub [2, 3, 4, 5, 6] rfl ?_
  refine x_wd (k' := k + 400) (n' := n + 40000) (by omega) (by omega) ?_
  exact join2244 _ hI
set_option maxRecDepth 100000 in
theorem arm_8 {b : gBt} {l : Launch} {s0 : State} {G : gK} (h0 : gS0 s0) (htr : l.stackTraces = false) (Z : gAm b l s0 G cL_law RL 7 room_1) {sa Ls : Nat} {xs : Nat → Int32} (hX : lX b s0 sa Ls xs) {k n : Nat} {K : kA} {R : rA} {oc : Nat} {w : wd} {i : Int} (hI : lI G w K R oc) (hi0 : 0 ≤ i) (hi4 : i + 4 ≤ Ls) (hk : k + 400 ≤ 755723) (hn : n + 40000 ≤ 6834312) (join2244 : ∀ w2 : wd, lI G w2 K R oc → gX b s0 G (k + 400) (n + 40000) 2244 [(4, iv i), (0, rv sa), (1, rv K.1), (2, rv R.1), (3, rv oc)] [] w2) : gX b s0 G k n 576 [(4, iv i), (0, rv sa), (1, rv K.1), (2, rv R.1), (3, rv oc)] [] w := by
  obtain ⟨-, -, -, hLs⟩ := id hX
  obtain ⟨M, S, yo, sv, hC⟩ := id hI
  obtain ⟨hS, hR2, ho, hd, hd2, hd3, hcp⟩ := id hC
  refine x_aload_n Z dL_law_576 rfl rfl ?_
  refine x_aload_n Z dL_law_577 rfl rfl ?_
  refine x_iload Z dL_law_578 rfl ?_
  refine x_iconst Z dL_law_580 ?_
  refine x_iadd Z dL_law_581 ?_
  refine x_sld Z hX (by omega) (by omega) dL_law_582 (fun hz582 => ?_)
  refine x_aload_n Z dL_law_583 rfl rfl ?_
  refine x_iload Z dL_law_584 rfl ?_
  refine x_iconst Z dL_law_586 ?_
  refine x_iadd Z dL_law_587 ?_
  refine x_sld Z hX (by omega) (by omega) dL_law_588 (fun hz588 => ?_)
  refine x_aload_n Z dL_law_589 rfl rfl ?_
  refine x_iload Z dL_law_590 rfl ?_
  refine x_iconst Z dL_law_592 ?_
  refine x_iadd Z dL_law_593 ?_
  refine x_sld Z hX (by omega) (by omega) dL_law_594 (fun hz594 => ?_)
  refine x_aload_n Z dL_law_595 rfl rfl ?_
  refine x_callSH Z okL_fill q429 q430 dL_law_596 (c_L_fill h0 htr hS (by assumption) (by assumption) (by assumption) ho hd) ⟨Nat.le_of_ble_eq_true rfl, Nat.le_of_ble_eq_true rfl, (by show _ + 3 ≤ 755723; omega), (by show _ + 18 ≤ 6834312; omega)⟩ rfl rfl (Nat.le_of_ble_eq_true rfl) (fun v9 w9 hR => ?_)
  obtain ⟨z5, rfl, hcl⟩ := hR
  have hSk0 := hS
  have hSr := hC.actS hcl
  simp only [Option.toList_some, Option.toList_none, List.cons_append, List.nil_append]
  refine x_istore (L' := [(5, _), (4, _), (0, _), (1, _), (2, _), (3, _)]) Z dL_law_599 (Nat.le_of_ble_eq_true rfl) rfl ?_
  refine x_aload_n Z dL_law_601 rfl rfl ?_
  refine x_aload_n Z dL_law_602 rfl rfl ?_
  refine x_iload Z dL_law_603 rfl ?_
  refine x_iconst Z dL_law_605 ?_
  refine x_iadd Z dL_law_606 ?_
  refine x_sld Z hX (by omega) (by omega) dL_law_607 (fun hz607 => ?_)
  refine x_aload_n Z dL_law_608 rfl rfl ?_
  refine x_iload Z dL_law_609 rfl ?_
  refine x_iconst Z dL_law_611 ?_
  refine x_iadd Z dL_law_612 ?_
  refine x_sld Z hX (by omega) (by omega) dL_law_613 (fun hz613 => ?_)
  refine x_aload_n Z dL_law_614 rfl rfl ?_
  refine x_iload Z dL_law_615 rfl ?_
  refine x_iconst Z dL_law_617 ?_
  refine x_iadd Z dL_law_618 ?_
  refine x_sld Z hX (by omega) (by omega) dL_law_619 (fun hz619 => ?_)
  refine x_callV (ci := 5) (C := RX4) (T := TX4) (N := 7) Z okX4_fill q1130 q1131 q1132 rfl dL_law_620 (c_X4_fill h0 htr hSr (by assumption) (by assumption) (by assumption)) hSr.1 ⟨Nat.le_of_ble_eq_true rfl, Nat.le_of_ble_eq_true rfl, (by show _ + 0 ≤ 755723; omega), (by show _ + 0 ≤ 6834312; omega)⟩ rfl rfl (Nat.le_of_ble_eq_true rfl) (fun v9 w9 hR => ?_)
  obtain ⟨z6, rfl, hA6⟩ := hR
  obtain ⟨S6, y6, hI, hS6, hT6, ho6, hy6, hz50, hz52⟩ := hC.act hcl hA6 (Iff.rfl) (fun _ => Iff.rfl) (fun h _ => acFill_cg hcp.v h.1 h.2)
  simp only [Option.toList_some, Option.toList_none, List.cons_append, List.nil_append]
  refine x_istore (L' := [(6, _), (5, _), (4, _), (0, _), (1, _), (2, _), (3, _)]) Z dL_law_623 (Nat.le_of_ble_eq_true rfl) rfl ?_
  refine x_goto Z 2244 dL_law_625 (by decide) ?_
  refine x_sub [2, 3, 4, 5, 6] rfl ?_
  refine x_wd (k' := k + 400) (n' := n + 40000) (by omega) (by omega) ?_
  exact join2244 _ hI
set_option maxRecDepth 100000 in
theorem arm_9 {b : gBt} {l : Launch} {s0 : State} {G : gK} (h0 : gS0 s0) (htr : l.stackTraces = false) (Z : gAm b l s0 G cL_law RL 7 room_1) {sa Ls : Nat} {xs : Nat → Int32} (hX : lX b s0 sa Ls xs) {k n : Nat} {K : kA} {R : rA} {oc : Nat} {w : wd} {i : Int} (hI : lI G w K R oc) (hi0 : 0 ≤ i) (hi4 : i + 4 ≤ Ls) (hk : k + 400 ≤ 755723) (hn : n + 40000 ≤ 6834312) (join2244 : ∀ w2 : wd, lI G w2 K R oc → gX b s0 G (k + 400) (n + 40000) 2244 [(4, iv i), (0, rv sa), (1, rv K.1), (2, rv R.1), (3, rv oc)] [] w2) : gX b s0 G k n 628 [(4, iv i), (0, rv sa), (1, rv K.1), (2, rv R.1), (3, rv oc)] [] w := by
  obtain ⟨-, -, -, hLs⟩ := id hX
  obtain ⟨M, S, yo, sv, hC⟩ := id hI
  obtain ⟨hS, hR2, ho, hd, hd2, hd3, hcp⟩ := id hC
  refine x_aload_n Z dL_law_628 rfl rfl ?_
  refine x_aload_n Z dL_law_629 rfl rfl ?_
  refine x_iload Z dL_law_630 rfl ?_
  refine x_iconst Z dL_law_632 ?_
  refine x_iadd Z dL_law_633 ?_
  refine x_sld Z hX (by omega) (by omega) dL_law_634 (fun hz634 => ?_)
  refine x_aload_n Z dL_law_635 rfl rfl ?_
  refine x_iload Z dL_law_636 rfl ?_
  refine x_iconst Z dL_law_638 ?_
  refine x_iadd Z dL_law_639 ?_
  refine x_sld Z hX (by omega) (by omega) dL_law_640 (fun hz640 => ?_)
  refine x_aload_n Z dL_law_641 rfl rfl ?_
  refine x_iload Z dL_law_642 rfl ?_
  refine x_iconst Z dL_law_644 ?_
  refine x_iadd Z dL_law_645 ?_
  refine x_sld Z hX (by omega) (by omega) dL_law_646 (fun hz646 => ?_)
  refine x_aload_n Z dL_law_647 rfl rfl ?_
  refine x_callSH Z okL_cut q436 q437 dL_law_648 (c_L_cut h0 htr hS (by assumption) (by assumption) (by assumption) ho hd) ⟨Nat.le_of_ble_eq_true rfl, Nat.le_of_ble_eq_true rfl, (by show _ + 2 ≤ 755723; omega), (by show _ + 12 ≤ 6834312; omega)⟩ rfl rfl (Nat.le_of_ble_eq_true rfl) (fun v9 w9 hR => ?_)
  obtain ⟨z5, rfl, hcl⟩ := hR
  have hSk0 := hS
  have hSr := hC.actS hcl
  simp only [Option.toList_some, Option.toList_none, List.cons_append, List.nil_append]
  refine x_istore (L' := [(5, _), (4, _), (0, _), (1, _), (2, _), (3, _)]) Z dL_law_651 (Nat.le_of_ble_eq_true rfl) rfl ?_
  refine x_aload_n Z dL_law_653 rfl rfl ?_
  refine x_aload_n Z dL_law_654 rfl rfl ?_
  refine x_iload Z dL_law_655 rfl ?_
  refine x_iconst Z dL_law_657 ?_
  refine x_iadd Z dL_law_658 ?_
  refine x_sld Z hX (by omega) (by omega) dL_law_659 (fun hz659 => ?_)
  refine x_aload_n Z dL_law_660 rfl rfl ?_
  refine x_iload Z dL_law_661 rfl ?_
  refine x_iconst Z dL_law_663 ?_
  refine x_iadd Z dL_law_664 ?_
  refine x_sld Z hX (by omega) (by omega) dL_law_665 (fun hz665 => ?_)
  refine x_aload_n Z dL_law_666 rfl rfl ?_
  refine x_iload Z dL_law_667 rfl ?_
  refine x_iconst Z dL_law_669 ?_
  refine x_iadd Z dL_law_670 ?_
  refine x_sld Z hX (by omega) (by omega) dL_law_671 (fun hz671 => ?_)
  refine x_callV (ci := 5) (C := RX4) (T := TX4) (N := 7) Z okX4_cut q1134 q1135 q1136 rfl dL_law_672 (c_X4_cut h0 htr hSr (by assumption) (by assumption) (by assumption)) hSr.1 ⟨Nat.le_of_ble_eq_true rfl, Nat.le_of_ble_eq_true rfl, (by show _ + 0 ≤ 755723; omega), (by show _ + 0 ≤ 6834312; omega)⟩ rfl rfl (Nat.le_of_ble_eq_true rfl) (fun v9 w9 hR => ?_)
  obtain ⟨z6, rfl, hA6⟩ := hR
  obtain ⟨S6, y6, hI, hS6, hT6, ho6, hy6, hz50, hz52⟩ := hC.act hcl hA6 (⟨fun h => by have e := (hcp.1 _ h.1.1 h.1.2).1; omega, fun h => by have e := (hcp.1 _ h.1.1 h.1.2).1; omega⟩) (fun _ => Iff.rfl) (fun h _ => acCut_cg hcp.v h.1.1 h.1.2 h.2.1 h.2.2.2)
  simp only [Option.toList_some, Option.toList_none, List.cons_append, List.nil_append]
  refine x_istore (L' := [(6, _), (5, _), (4, _), (0, _), (1, _), (2, _), (3, _)]) Z dL_law_675 (Nat.le_of_ble_eq_true rfl) rfl ?_
  refine x_goto Z 2244 dL_law_677 (by decide) ?_
  refine x_sub [2, 3, 4, 5, 6] rfl ?_
  refine x_wd (k' := k + 400) (n' := n + 40000) (by omega) (by omega) ?_
  exact join2244 _ hI
set_option maxRecDepth 100000 in
theorem arm_10 {b : gBt} {l : Launch} {s0 : State} {G : gK} (h0 : gS0 s0) (htr : l.stackTraces = false) (Z : gAm b l s0 G cL_law RL 7 room_1) {sa Ls : Nat} {xs : Nat → Int32} (hX : lX b s0 sa Ls xs) {k n : Nat} {K : kA} {R : rA} {oc : Nat} {w : wd} {i : Int} (hI : lI G w K R oc) (hi0 : 0 ≤ i) (hi4 : i + 4 ≤ Ls) (hk : k + 400 ≤ 755723) (hn : n + 40000 ≤ 6834312) (join2244 : ∀ w2 : wd, lI G w2 K R oc → gX b s0 G (k + 400) (n + 40000) 2244 [(4, iv i), (0, rv sa), (1, rv K.1), (2, rv R.1), (3, rv oc)] [] w2) : gX b s0 G k n 680 [(4, iv i), (0, rv sa), (1, rv K.1), (2, rv R.1), (3, rv oc)] [] w := by
  obtain ⟨-, -, -, hLs⟩ := id hX
  obtain ⟨M, S, yo, sv, hC⟩ := id hI
  obtain ⟨hS, hR2, ho, hd, hd2, hd3, hcp⟩ := id hC
  refine x_aload_n Z dL_law_680 rfl rfl ?_
  refine x_aload_n Z dL_law_681 rfl rfl ?_
  refine x_iload Z dL_law_682 rfl ?_
  refine x_iconst Z dL_law_684 ?_
  refine x_iadd Z dL_law_685 ?_
  refine x_sld Z hX (by omega) (by omega) dL_law_686 (fun hz686 => ?_)
  refine x_aload_n Z dL_law_687 rfl rfl ?_
  refine x_iload Z dL_law_688 rfl ?_
  refine x_iconst Z dL_law_690 ?_
  refine x_iadd Z dL_law_691 ?_
  refine x_sld Z hX (by omega) (by omega) dL_law_692 (fun hz692 => ?_)
  refine x_aload_n Z dL_law_693 rfl rfl ?_
  refine x_iload Z dL_law_694 rfl ?_
  refine x_iconst Z dL_law_696 ?_
  refine x_iadd Z dL_law_697 ?_
  refine x_sld Z hX (by omega) (by omega) dL_law_698 (fun hz698 => ?_)
  refine x_if_eq Z 706 dL_law_699 (by decide) ⟨by omega, by omega⟩ (fun c699 => ?_) (fun c699 => ?_)
  ·
    refine x_ib false Z dL_law_706 (by decide) ?_
    refine x_aload_n Z dL_law_707 rfl rfl ?_
    refine x_callSH Z okL_keep q443 q444 dL_law_708 (c_L_keep h0 htr hS (by assumption) (by assumption) ho hd) ⟨Nat.le_of_ble_eq_true rfl, Nat.le_of_ble_eq_true rfl, (by show _ + 2 ≤ 755723; omega), (by show _ + 12 ≤ 6834312; omega)⟩ rfl rfl (Nat.le_of_ble_eq_true rfl) (fun v9 w9 hR => ?_)
    obtain ⟨z5, rfl, hcl⟩ := hR
    have hSk0 := hS
    have hSr := hC.actS hcl
    simp only [Option.toList_some, Option.toList_none, List.cons_append, List.nil_append]
    refine x_istore (L' := [(5, _), (4, _), (0, _), (1, _), (2, _), (3, _)]) Z dL_law_711 (Nat.le_of_ble_eq_true rfl) rfl ?_
    refine x_aload_n Z dL_law_713 rfl rfl ?_
    refine x_aload_n Z dL_law_714 rfl rfl ?_
    refine x_iload Z dL_law_715 rfl ?_
    refine x_iconst Z dL_law_717 ?_
    refine x_iadd Z dL_law_718 ?_
    refine x_sld Z hX (by omega) (by omega) dL_law_719 (fun hz719 => ?_)
    refine x_aload_n Z dL_law_720 rfl rfl ?_
    refine x_iload Z dL_law_721 rfl ?_
    refine x_iconst Z dL_law_723 ?_
    refine x_iadd Z dL_law_724 ?_
    refine x_sld Z hX (by omega) (by omega) dL_law_725 (fun hz725 => ?_)
    refine x_aload_n Z dL_law_726 rfl rfl ?_
    refine x_iload Z dL_law_727 rfl ?_
    refine x_iconst Z dL_law_729 ?_
    refine x_iadd Z dL_law_730 ?_
    refine x_sld Z hX (by omega) (by omega) dL_law_731 (fun hz731 => ?_)
    refine x_if_eq Z 739 dL_law_732 (by decide) ⟨by omega, by omega⟩ (fun c732 => ?_) (fun c732 => ?_)
    ·
      refine x_ib false Z dL_law_739 (by decide) ?_
      refine x_callV (ci := 5) (C := RX4) (T := TX4) (N := 7) Z okX4_keep q1138 q1139 q1140 rfl dL_law_740 (c_X4_keep h0 htr hSr (by assumption) (by assumption)) hSr.1 ⟨Nat.le_of_ble_eq_true rfl, Nat.le_of_ble_eq_true rfl, (by show _ + 1 ≤ 755723; omega), (by show _ + 30 ≤ 6834312; omega)⟩ rfl rfl (Nat.le_of_ble_eq_true rfl) (fun v9 w9 hR => ?_)
      obtain ⟨z6, rfl, hA6⟩ := hR
      obtain ⟨S6, y6, hI, hS6, hT6, ho6, hy6, hz50, hz52⟩ := hC.act hcl hA6 (Iff.rfl) (fun _ => Iff.rfl) (fun h _ => acSift_cg hcp.v h.1 h.2 (hSk0.n0 h.1 h.2) (fun j j0 jn => by first | exact congrArg (fun c => so c _ == _) ((hcp.1 _ h.1 h.2).2 j j0 jn) | (exfalso; omega)))
      simp only [Option.toList_some, Option.toList_none, List.cons_append, List.nil_append]
      refine x_istore (L' := [(6, _), (5, _), (4, _), (0, _), (1, _), (2, _), (3, _)]) Z dL_law_743 (Nat.le_of_ble_eq_true rfl) rfl ?_
      refine x_goto Z 2244 dL_law_745 (by decide) ?_
      refine x_sub [2, 3, 4, 5, 6] rfl ?_
      refine x_wd (k' := k + 400) (n' := n + 40000) (by omega) (by omega) ?_
      exact join2244 _ hI
    ·
      refine x_ib true Z dL_law_735 (by decide) ?_
      refine x_goto Z 740 dL_law_736 (by decide) ?_
      refine x_callV (ci := 5) (C := RX4) (T := TX4) (N := 7) Z okX4_keep q1138 q1139 q1140 rfl dL_law_740 (c_X4_keep h0 htr hSr (by assumption) (by assumption)) hSr.1 ⟨Nat.le_of_ble_eq_true rfl, Nat.le_of_ble_eq_true rfl, (by show _ + 1 ≤ 755723; omega), (by show _ + 30 ≤ 6834312; omega)⟩ rfl rfl (Nat.le_of_ble_eq_true rfl) (fun v9 w9 hR => ?_)
      obtain ⟨z6, rfl, hA6⟩ := hR
      obtain ⟨S6, y6, hI, hS6, hT6, ho6, hy6, hz50, hz52⟩ := hC.act hcl hA6 (Iff.rfl) (fun _ => Iff.rfl) (fun h _ => acSift_cg hcp.v h.1 h.2 (hSk0.n0 h.1 h.2) (fun j j0 jn => by first | exact congrArg (fun c => so c _ == _) ((hcp.1 _ h.1 h.2).2 j j0 jn) | (exfalso; omega)))
      simp only [Option.toList_some, Option.toList_none, List.cons_append, List.nil_append]
      refine x_istore (L' := [(6, _), (5, _), (4, _), (0, _), (1, _), (2, _), (3, _)]) Z dL_law_743 (Nat.le_of_ble_eq_true rfl) rfl ?_
      refine x_goto Z 2244 dL_law_745 (by decide) ?_
      refine x_sub [2, 3, 4, 5, 6] rfl ?_
      refine x_wd (k' := k + 400) (n' := n + 40000) (by omega) (by omega) ?_
      exact join2244 _ hI
  ·
    refine x_ib true Z dL_law_702 (by decide) ?_
    refine x_goto Z 707 dL_law_703 (by decide) ?_
    refine x_aload_n Z dL_law_707 rfl rfl ?_
    refine x_callSH Z okL_keep q443 q444 dL_law_708 (c_L_keep h0 htr hS (by assumption) (by assumption) ho hd) ⟨Nat.le_of_ble_eq_true rfl, Nat.le_of_ble_eq_true rfl, (by show _ + 2 ≤ 755723; omega), (by show _ + 12 ≤ 6834312; omega)⟩ rfl rfl (Nat.le_of_ble_eq_true rfl) (fun v9 w9 hR => ?_)
    obtain ⟨z5, rfl, hcl⟩ := hR
    have hSk0 := hS
    have hSr := hC.actS hcl
    simp only [Option.toList_some, Option.toList_none, List.cons_append, List.nil_append]
    refine x_istore (L' := [(5, _), (4, _), (0, _), (1, _), (2, _), (3, _)]) Z dL_law_711 (Nat.le_of_ble_eq_true rfl) rfl ?_
    refine x_aload_n Z dL_law_713 rfl rfl ?_
    refine x_aload_n Z dL_law_714 rfl rfl ?_
    refine x_iload Z dL_law_715 rfl ?_
    refine x_iconst Z dL_law_717 ?_
    refine x_iadd Z dL_law_718 ?_
    refine x_sld Z hX (by omega) (by omega) dL_law_719 (fun hz719 => ?_)
    refine x_aload_n Z dL_law_720 rfl rfl ?_
    refine x_iload Z dL_law_721 rfl ?_
    refine x_iconst Z dL_law_723 ?_
    refine x_iadd Z dL_law_724 ?_
    refine x_sld Z hX (by omega) (by omega) dL_law_725 (fun hz725 => ?_)
    refine x_aload_n Z dL_law_726 rfl rfl ?_
    refine x_iload Z dL_law_727 rfl ?_
    refine x_iconst Z dL_law_729 ?_
    refine x_iadd Z dL_law_730 ?_
    refine x_sld Z hX (by omega) (by omega) dL_law_731 (fun hz731 => ?_)
    refine x_if_eq Z 739 dL_law_732 (by decide) ⟨by omega, by omega⟩ (fun c732 => ?_) (fun c732 => ?_)
    ·
      refine x_ib false Z dL_law_739 (by decide) ?_
      refine x_callV (ci := 5) (C := RX4) (T := TX4) (N := 7) Z okX4_keep q1138 q1139 q1140 rfl dL_law_740 (c_X4_keep h0 htr hSr (by assumption) (by assumption)) hSr.1 ⟨Nat.le_of_ble_eq_true rfl, Nat.le_of_ble_eq_true rfl, (by show _ + 1 ≤ 755723; omega), (by show _ + 30 ≤ 6834312; omega)⟩ rfl rfl (Nat.le_of_ble_eq_true rfl) (fun v9 w9 hR => ?_)
      obtain ⟨z6, rfl, hA6⟩ := hR
      obtain ⟨S6, y6, hI, hS6, hT6, ho6, hy6, hz50, hz52⟩ := hC.act hcl hA6 (Iff.rfl) (fun _ => Iff.rfl) (fun h _ => acSift_cg hcp.v h.1 h.2 (hSk0.n0 h.1 h.2) (fun j j0 jn => by first | exact congrArg (fun c => so c _ == _) ((hcp.1 _ h.1 h.2).2 j j0 jn) | (exfalso; omega)))
      simp only [Option.toList_some, Option.toList_none, List.cons_append, List.nil_append]
      refine x_istore (L' := [(6, _), (5, _), (4, _), (0, _), (1, _), (2, _), (3, _)]) Z dL_law_743 (Nat.le_of_ble_eq_true rfl) rfl ?_
      refine x_goto Z 2244 dL_law_745 (by decide) ?_
      refine x_sub [2, 3, 4, 5, 6] rfl ?_
      refine x_wd (k' := k + 400) (n' := n + 40000) (by omega) (by omega) ?_
      exact join2244 _ hI
    ·
      refine x_ib true Z dL_law_735 (by decide) ?_
      refine x_goto Z 740 dL_law_736 (by decide) ?_
      refine x_callV (ci := 5) (C := RX4) (T := TX4) (N := 7) Z okX4_keep q1138 q1139 q1140 rfl dL_law_740 (c_X4_keep h0 htr hSr (by assumption) (by assumption)) hSr.1 ⟨Nat.le_of_ble_eq_true rfl, Nat.le_of_ble_eq_true rfl, (by show _ + 1 ≤ 755723; omega), (by show _ + 30 ≤ 6834312; omega)⟩ rfl rfl (Nat.le_of_ble_eq_true rfl) (fun v9 w9 hR => ?_)
      obtain ⟨z6, rfl, hA6⟩ := hR
      obtain ⟨S6, y6, hI, hS6, hT6, ho6, hy6, hz50, hz52⟩ := hC.act hcl hA6 (Iff.rfl) (fun _ => Iff.rfl) (fun h _ => acSift_cg hcp.v h.1 h.2 (hSk0.n0 h.1 h.2) (fun j j0 jn => by first | exact congrArg (fun c => so c _ == _) ((hcp.1 _ h.1 h.2).2 j j0 jn) | (exfalso; omega)))
      simp only [Option.toList_some, Option.toList_none, List.cons_append, List.nil_append]
      refine x_istore (L' := [(6, _), (5, _), (4, _), (0, _), (1, _), (2, _), (3, _)]) Z dL_law_743 (Nat.le_of_ble_eq_true rfl) rfl ?_
      refine x_goto Z 2244 dL_law_745 (by decide) ?_
      refine x_sub [2, 3, 4, 5, 6] rfl ?_
      refine x_wd (k' := k + 400) (n' := n + 40000) (by omega) (by omega) ?_
      exact join2244 _ hI
set_option maxRecDepth 100000 in
theorem arm_11 {b : gBt} {l : Launch} {s0 : State} {G : gK} (h0 : gS0 s0) (htr : l.stackTraces = false) (Z : gAm b l s0 G cL_law RL 7 room_1) {sa Ls : Nat} {xs : Nat → Int32} (hX : lX b s0 sa Ls xs) {k n : Nat} {K : kA} {R : rA} {oc : Nat} {w : wd} {i : Int} (hI : lI G w K R oc) (hi0 : 0 ≤ i) (hi4 : i + 4 ≤ Ls) (hk : k + 400 ≤ 755723) (hn : n + 40000 ≤ 6834312) (join2244 : ∀ w2 : wd, lI G w2 K R oc → gX b s0 G (k + 400) (n + 40000) 2244 [(4, iv i), (0, rv sa), (1, rv K.1), (2, rv R.1), (3, rv oc)] [] w2) : gX b s0 G k n 748 [(4, iv i), (0, rv sa), (1, rv K.1), (2, rv R.1), (3, rv oc)] [] w := by
  obtain ⟨-, -, -, hLs⟩ := id hX
  obtain ⟨M, S, yo, sv, hC⟩ := id hI
  obtain ⟨hS, hR2, ho, hd, hd2, hd3, hcp⟩ := id hC
  refine x_aload_n Z dL_law_748 rfl rfl ?_
  refine x_aload_n Z dL_law_749 rfl rfl ?_
  refine x_iload Z dL_law_750 rfl ?_
  refine x_iconst Z dL_law_752 ?_
  refine x_iadd Z dL_law_753 ?_
  refine x_sld Z hX (by omega) (by omega) dL_law_754 (fun hz754 => ?_)
  refine x_aload_n Z dL_law_755 rfl rfl ?_
  refine x_iload Z dL_law_756 rfl ?_
  refine x_iconst Z dL_law_758 ?_
  refine x_iadd Z dL_law_759 ?_
  refine x_sld Z hX (by omega) (by omega) dL_law_760 (fun hz760 => ?_)
  refine x_aload_n Z dL_law_761 rfl rfl ?_
  refine x_iload Z dL_law_762 rfl ?_
  refine x_iconst Z dL_law_764 ?_
  refine x_iadd Z dL_law_765 ?_
  refine x_sld Z hX (by omega) (by omega) dL_law_766 (fun hz766 => ?_)
  refine x_if_eq Z 774 dL_law_767 (by decide) ⟨by omega, by omega⟩ (fun c767 => ?_) (fun c767 => ?_)
  ·
    refine x_ib false Z dL_law_774 (by decide) ?_
    refine x_aload_n Z dL_law_775 rfl rfl ?_
    refine x_callSH Z okL_keepKind q457 q458 dL_law_776 (c_L_keepKind h0 htr hS (by assumption) (by assumption) ho hd) ⟨Nat.le_of_ble_eq_true rfl, Nat.le_of_ble_eq_true rfl, (by show _ + 2 ≤ 755723; omega), (by show _ + 12 ≤ 6834312; omega)⟩ rfl rfl (Nat.le_of_ble_eq_true rfl) (fun v9 w9 hR => ?_)
    obtain ⟨z5, rfl, hcl⟩ := hR
    have hSk0 := hS
    have hSr := hC.actS hcl
    simp only [Option.toList_some, Option.toList_none, List.cons_append, List.nil_append]
    refine x_istore (L' := [(5, _), (4, _), (0, _), (1, _), (2, _), (3, _)]) Z dL_law_779 (Nat.le_of_ble_eq_true rfl) rfl ?_
    refine x_aload_n Z dL_law_781 rfl rfl ?_
    refine x_aload_n Z dL_law_782 rfl rfl ?_
    refine x_iload Z dL_law_783 rfl ?_
    refine x_iconst Z dL_law_785 ?_
    refine x_iadd Z dL_law_786 ?_
    refine x_sld Z hX (by omega) (by omega) dL_law_787 (fun hz787 => ?_)
    refine x_aload_n Z dL_law_788 rfl rfl ?_
    refine x_iload Z dL_law_789 rfl ?_
    refine x_iconst Z dL_law_791 ?_
    refine x_iadd Z dL_law_792 ?_
    refine x_sld Z hX (by omega) (by omega) dL_law_793 (fun hz793 => ?_)
    refine x_aload_n Z dL_law_794 rfl rfl ?_
    refine x_iload Z dL_law_795 rfl ?_
    refine x_iconst Z dL_law_797 ?_
    refine x_iadd Z dL_law_798 ?_
    refine x_sld Z hX (by omega) (by omega) dL_law_799 (fun hz799 => ?_)
    refine x_if_eq Z 807 dL_law_800 (by decide) ⟨by omega, by omega⟩ (fun c800 => ?_) (fun c800 => ?_)
    ·
      refine x_ib false Z dL_law_807 (by decide) ?_
      refine x_callV (ci := 5) (C := RX4) (T := TX4) (N := 7) Z okX4_keepKind q1160 q1161 q1162 rfl dL_law_808 (c_X4_keepKind h0 htr hSr (by assumption) (by assumption)) hSr.1 ⟨Nat.le_of_ble_eq_true rfl, Nat.le_of_ble_eq_true rfl, (by show _ + 1 ≤ 755723; omega), (by show _ + 30 ≤ 6834312; omega)⟩ rfl rfl (Nat.le_of_ble_eq_true rfl) (fun v9 w9 hR => ?_)
      obtain ⟨z6, rfl, hA6⟩ := hR
      obtain ⟨S6, y6, hI, hS6, hT6, ho6, hy6, hz50, hz52⟩ := hC.act hcl hA6 (Iff.rfl) (fun _ => Iff.rfl) (fun h _ => acSift_cg hcp.v h.1 h.2 (hSk0.n0 h.1 h.2) (fun j j0 jn => by first | exact congrArg (fun c => decide (kin c = _) == _) ((hcp.1 _ h.1 h.2).2 j j0 jn) | (exfalso; omega)))
      simp only [Option.toList_some, Option.toList_none, List.cons_append, List.nil_append]
      refine x_istore (L' := [(6, _), (5, _), (4, _), (0, _), (1, _), (2, _), (3, _)]) Z dL_law_811 (Nat.le_of_ble_eq_true rfl) rfl ?_
      refine x_goto Z 2244 dL_law_813 (by decide) ?_
      refine x_sub [2, 3, 4, 5, 6] rfl ?_
      refine x_wd (k' := k + 400) (n' := n + 40000) (by omega) (by omega) ?_
      exact join2244 _ hI
    ·
      refine x_ib true Z dL_law_803 (by decide) ?_
      refine x_goto Z 808 dL_law_804 (by decide) ?_
      refine x_callV (ci := 5) (C := RX4) (T := TX4) (N := 7) Z okX4_keepKind q1160 q1161 q1162 rfl dL_law_808 (c_X4_keepKind h0 htr hSr (by assumption) (by assumption)) hSr.1 ⟨Nat.le_of_ble_eq_true rfl, Nat.le_of_ble_eq_true rfl, (by show _ + 1 ≤ 755723; omega), (by show _ + 30 ≤ 6834312; omega)⟩ rfl rfl (Nat.le_of_ble_eq_true rfl) (fun v9 w9 hR => ?_)
      obtain ⟨z6, rfl, hA6⟩ := hR
      obtain ⟨S6, y6, hI, hS6, hT6, ho6, hy6, hz50, hz52⟩ := hC.act hcl hA6 (Iff.rfl) (fun _ => Iff.rfl) (fun h _ => acSift_cg hcp.v h.1 h.2 (hSk0.n0 h.1 h.2) (fun j j0 jn => by first | exact congrArg (fun c => decide (kin c = _) == _) ((hcp.1 _ h.1 h.2).2 j j0 jn) | (exfalso; omega)))
      simp only [Option.toList_some, Option.toList_none, List.cons_append, List.nil_append]
      refine x_istore (L' := [(6, _), (5, _), (4, _), (0, _), (1, _), (2, _), (3, _)]) Z dL_law_811 (Nat.le_of_ble_eq_true rfl) rfl ?_
      refine x_goto Z 2244 dL_law_813 (by decide) ?_
      refine x_sub [2, 3, 4, 5, 6] rfl ?_
      refine x_wd (k' := k + 400) (n' := n + 40000) (by omega) (by omega) ?_
      exact join2244 _ hI
  ·
    refine x_ib true Z dL_law_770 (by decide) ?_
    refine x_goto Z 775 dL_law_771 (by decide) ?_
    refine x_aload_n Z dL_law_775 rfl rfl ?_
    refine x_callSH Z okL_keepKind q457 q458 dL_law_776 (c_L_keepKind h0 htr hS (by assumption) (by assumption) ho hd) ⟨Nat.le_of_ble_eq_true rfl, Nat.le_of_ble_eq_true rfl, (by show _ + 2 ≤ 755723; omega), (by show _ + 12 ≤ 6834312; omega)⟩ rfl rfl (Nat.le_of_ble_eq_true rfl) (fun v9 w9 hR => ?_)
    obtain ⟨z5, rfl, hcl⟩ := hR
    have hSk0 := hS
    have hSr := hC.actS hcl
    simp only [Option.toList_some, Option.toList_none, List.cons_append, List.nil_append]
    refine x_istore (L' := [(5, _), (4, _), (0, _), (1, _), (2, _), (3, _)]) Z dL_law_779 (Nat.le_of_ble_eq_true rfl) rfl ?_
    refine x_aload_n Z dL_law_781 rfl rfl ?_
    refine x_aload_n Z dL_law_782 rfl rfl ?_
    refine x_iload Z dL_law_783 rfl ?_
    refine x_iconst Z dL_law_785 ?_
    refine x_iadd Z dL_law_786 ?_
    refine x_sld Z hX (by omega) (by omega) dL_law_787 (fun hz787 => ?_)
    refine x_aload_n Z dL_law_788 rfl rfl ?_
    refine x_iload Z dL_law_789 rfl ?_
    refine x_iconst Z dL_law_791 ?_
    refine x_iadd Z dL_law_792 ?_
    refine x_sld Z hX (by omega) (by omega) dL_law_793 (fun hz793 => ?_)
    refine x_aload_n Z dL_law_794 rfl rfl ?_
    refine x_iload Z dL_law_795 rfl ?_
    refine x_iconst Z dL_law_797 ?_
    refine x_iadd Z dL_law_798 ?_
    refine x_sld Z hX (by omega) (by omega) dL_law_799 (fun hz799 => ?_)
    refine x_if_eq Z 807 dL_law_800 (by decide) ⟨by omega, by omega⟩ (fun c800 => ?_) (fun c800 => ?_)
    ·
      refine x_ib false Z dL_law_807 (by decide) ?_
      refine x_callV (ci := 5) (C := RX4) (T := TX4) (N := 7) Z okX4_keepKind q1160 q1161 q1162 rfl dL_law_808 (c_X4_keepKind h0 htr hSr (by assumption) (by assumption)) hSr.1 ⟨Nat.le_of_ble_eq_true rfl, Nat.le_of_ble_eq_true rfl, (by show _ + 1 ≤ 755723; omega), (by show _ + 30 ≤ 6834312; omega)⟩ rfl rfl (Nat.le_of_ble_eq_true rfl) (fun v9 w9 hR => ?_)
      obtain ⟨z6, rfl, hA6⟩ := hR
      obtain ⟨S6, y6, hI, hS6, hT6, ho6, hy6, hz50, hz52⟩ := hC.act hcl hA6 (Iff.rfl) (fun _ => Iff.rfl) (fun h _ => acSift_cg hcp.v h.1 h.2 (hSk0.n0 h.1 h.2) (fun j j0 jn => by first | exact congrArg (fun c => decide (kin c = _) == _) ((hcp.1 _ h.1 h.2).2 j j0 jn) | (exfalso; omega)))
      simp only [Option.toList_some, Option.toList_none, List.cons_append, List.nil_append]
      refine x_istore (L' := [(6, _), (5, _), (4, _), (0, _), (1, _), (2, _), (3, _)]) Z dL_law_811 (Nat.le_of_ble_eq_true rfl) rfl ?_
      refine x_goto Z 2244 dL_law_813 (by decide) ?_
      refine x_sub [2, 3, 4, 5, 6] rfl ?_
      refine x_wd (k' := k + 400) (n' := n + 40000) (by omega) (by omega) ?_
      exact join2244 _ hI
    ·
      refine x_ib true Z dL_law_803 (by decide) ?_
      refine x_goto Z 808 dL_law_804 (by decide) ?_
      refine x_callV (ci := 5) (C := RX4) (T := TX4) (N := 7) Z okX4_keepKind q1160 q1161 q1162 rfl dL_law_808 (c_X4_keepKind h0 htr hSr (by assumption) (by assumption)) hSr.1 ⟨Nat.le_of_ble_eq_true rfl, Nat.le_of_ble_eq_true rfl, (by show _ + 1 ≤ 755723; omega), (by show _ + 30 ≤ 6834312; omega)⟩ rfl rfl (Nat.le_of_ble_eq_true rfl) (fun v9 w9 hR => ?_)
      obtain ⟨z6, rfl, hA6⟩ := hR
      obtain ⟨S6, y6, hI, hS6, hT6, ho6, hy6, hz50, hz52⟩ := hC.act hcl hA6 (Iff.rfl) (fun _ => Iff.rfl) (fun h _ => acSift_cg hcp.v h.1 h.2 (hSk0.n0 h.1 h.2) (fun j j0 jn => by first | exact congrArg (fun c => decide (kin c = _) == _) ((hcp.1 _ h.1 h.2).2 j j0 jn) | (exfalso; omega)))
      simp only [Option.toList_some, Option.toList_none, List.cons_append, List.nil_append]
      refine x_istore (L' := [(6, _), (5, _), (4, _), (0, _), (1, _), (2, _), (3, _)]) Z dL_law_811 (Nat.le_of_ble_eq_true rfl) rfl ?_
      refine x_goto Z 2244 dL_law_813 (by decide) ?_
      refine x_sub [2, 3, 4, 5, 6] rfl ?_
      refine x_wd (k' := k + 400) (n' := n + 40000) (by omega) (by omega) ?_
      exact join2244 _ hI
set_option maxRecDepth 100000 in
theorem arm_12 {b : gBt} {l : Launch} {s0 : State} {G : gK} (h0 : gS0 s0) (htr : l.stackTraces = false) (Z : gAm b l s0 G cL_law RL 7 room_1) {sa Ls : Nat} {xs : Nat → Int32} (hX : lX b s0 sa Ls xs) {k n : Nat} {K : kA} {R : rA} {oc : Nat} {w : wd} {i : Int} (hI : lI G w K R oc) (hi0 : 0 ≤ i) (hi4 : i + 4 ≤ Ls) (hk : k + 400 ≤ 755723) (hn : n + 40000 ≤ 6834312) (join2244 : ∀ w2 : wd, lI G w2 K R oc → gX b s0 G (k + 400) (n + 40000) 2244 [(4, iv i), (0, rv sa), (1, rv K.1), (2, rv R.1), (3, rv oc)] [] w2) : gX b s0 G k n 816 [(4, iv i), (0, rv sa), (1, rv K.1), (2, rv R.1), (3, rv oc)] [] w := by
  obtain ⟨-, -, -, hLs⟩ := id hX
  obtain ⟨M, S, yo, sv, hC⟩ := id hI
  obtain ⟨hS, hR2, ho, hd, hd2, hd3, hcp⟩ := id hC
  refine x_aload_n Z dL_law_816 rfl rfl ?_
  refine x_aload_n Z dL_law_817 rfl rfl ?_
  refine x_iload Z dL_law_818 rfl ?_
  refine x_iconst Z dL_law_820 ?_
  refine x_iadd Z dL_law_821 ?_
  refine x_sld Z hX (by omega) (by omega) dL_law_822 (fun hz822 => ?_)
  refine x_aload_n Z dL_law_823 rfl rfl ?_
  refine x_iload Z dL_law_824 rfl ?_
  refine x_iconst Z dL_law_826 ?_
  refine x_iadd Z dL_law_827 ?_
  refine x_sld Z hX (by omega) (by omega) dL_law_828 (fun hz828 => ?_)
  refine x_aload_n Z dL_law_829 rfl rfl ?_
  refine x_iload Z dL_law_830 rfl ?_
  refine x_iconst Z dL_law_832 ?_
  refine x_iadd Z dL_law_833 ?_
  refine x_sld Z hX (by omega) (by omega) dL_law_834 (fun hz834 => ?_)
  refine x_aload_n Z dL_law_835 rfl rfl ?_
  refine x_callSH Z okL_take q471 q472 dL_law_836 (c_L_take h0 htr hS (by assumption) (by assumption) (by assumption) ho hd) ⟨Nat.le_of_ble_eq_true rfl, Nat.le_of_ble_eq_true rfl, (by show _ + 3 ≤ 755723; omega), (by show _ + 18 ≤ 6834312; omega)⟩ rfl rfl (Nat.le_of_ble_eq_true rfl) (fun v9 w9 hR => ?_)
  obtain ⟨z5, rfl, hcl⟩ := hR
  have hSk0 := hS
  have hSr := hC.actS hcl
  simp only [Option.toList_some, Option.toList_none, List.cons_append, List.nil_append]
  refine x_istore (L' := [(5, _), (4, _), (0, _), (1, _), (2, _), (3, _)]) Z dL_law_839 (Nat.le_of_ble_eq_true rfl) rfl ?_
  refine x_aload_n Z dL_law_841 rfl rfl ?_
  refine x_aload_n Z dL_law_842 rfl rfl ?_
  refine x_iload Z dL_law_843 rfl ?_
  refine x_iconst Z dL_law_845 ?_
  refine x_iadd Z dL_law_846 ?_
  refine x_sld Z hX (by omega) (by omega) dL_law_847 (fun hz847 => ?_)
  refine x_aload_n Z dL_law_848 rfl rfl ?_
  refine x_iload Z dL_law_849 rfl ?_
  refine x_iconst Z dL_law_851 ?_
  refine x_iadd Z dL_law_852 ?_
  refine x_sld Z hX (by omega) (by omega) dL_law_853 (fun hz853 => ?_)
  refine x_aload_n Z dL_law_854 rfl rfl ?_
  refine x_iload Z dL_law_855 rfl ?_
  refine x_iconst Z dL_law_857 ?_
  refine x_iadd Z dL_law_858 ?_
  refine x_sld Z hX (by omega) (by omega) dL_law_859 (fun hz859 => ?_)
  refine x_callV (ci := 5) (C := RX4) (T := TX4) (N := 7) Z okX4_take q1167 q1168 q1169 rfl dL_law_860 (c_X4_take h0 htr hSr (by assumption) (by assumption) (by assumption)) hSr.1 ⟨Nat.le_of_ble_eq_true rfl, Nat.le_of_ble_eq_true rfl, (by show _ + 2 ≤ 755723; omega), (by show _ + 60 ≤ 6834312; omega)⟩ rfl rfl (Nat.le_of_ble_eq_true rfl) (fun v9 w9 hR => ?_)
  obtain ⟨z6, rfl, hA6⟩ := hR
  obtain ⟨S6, y6, hI, hS6, hT6, ho6, hy6, hz50, hz52⟩ := hC.act hcl hA6 (⟨fun h => by have e := hcp.pbg (k := sx xs (i + 2)) h.1.1.1 h.1.1.2 (hSk0.n0 h.1.1.1 h.1.1.2); omega, fun h => by have e := hcp.pbg (k := sx xs (i + 2)) h.1.1.1 h.1.1.2 (hSk0.n0 h.1.1.1 h.1.1.2); omega⟩) (fun _ => Iff.rfl) (fun h _ => acTake_cg hcp.v h.1.1.1 h.1.1.2 (hSk0.n0 h.1.1.1 h.1.1.2) h.2.2)
  simp only [Option.toList_some, Option.toList_none, List.cons_append, List.nil_append]
  refine x_istore (L' := [(6, _), (5, _), (4, _), (0, _), (1, _), (2, _), (3, _)]) Z dL_law_863 (Nat.le_of_ble_eq_true rfl) rfl ?_
  refine x_goto Z 2244 dL_law_865 (by decide) ?_
  refine x_sub [2, 3, 4, 5, 6] rfl ?_
  refine x_wd (k' := k + 400) (n' := n + 40000) (by omega) (by omega) ?_
  exact join2244 _ hI
set_option maxRecDepth 100000 in
theorem arm_13 {b : gBt} {l : Launch} {s0 : State} {G : gK} (h0 : gS0 s0) (htr : l.stackTraces = false) (Z : gAm b l s0 G cL_law RL 7 room_1) {sa Ls : Nat} {xs : Nat → Int32} (hX : lX b s0 sa Ls xs) {k n : Nat} {K : kA} {R : rA} {oc : Nat} {w : wd} {i : Int} (hI : lI G w K R oc) (hi0 : 0 ≤ i) (hi4 : i + 4 ≤ Ls) (hk : k + 400 ≤ 755723) (hn : n + 40000 ≤ 6834312) (join2244 : ∀ w2 : wd, lI G w2 K R oc → gX b s0 G (k + 400) (n + 40000) 2244 [(4, iv i), (0, rv sa), (1, rv K.1), (2, rv R.1), (3, rv oc)] [] w2) : gX b s0 G k n 868 [(4, iv i), (0, rv sa), (1, rv K.1), (2, rv R.1), (3, rv oc)] [] w := by
  obtain ⟨-, -, -, hLs⟩ := id hX
  obtain ⟨M, S, yo, sv, hC⟩ := id hI
  obtain ⟨hS, hR2, ho, hd, hd2, hd3, hcp⟩ := id hC
  refine x_aload_n Z dL_law_868 rfl rfl ?_
  refine x_aload_n Z dL_law_869 rfl rfl ?_
  refine x_iload Z dL_law_870 rfl ?_
  refine x_iconst Z dL_law_872 ?_
  refine x_iadd Z dL_law_873 ?_
  refine x_sld Z hX (by omega) (by omega) dL_law_874 (fun hz874 => ?_)
  refine x_aload_n Z dL_law_875 rfl rfl ?_
  refine x_callSH Z okL_mend q486 q487 dL_law_876 (c_L_mend h0 htr hS (by assumption) ho hd) ⟨Nat.le_of_ble_eq_true rfl, Nat.le_of_ble_eq_true rfl, (by show _ + 1 ≤ 755723; omega), (by show _ + 6 ≤ 6834312; omega)⟩ rfl rfl (Nat.le_of_ble_eq_true rfl) (fun v9 w9 hR => ?_)
  obtain ⟨z5, rfl, hcl⟩ := hR
  have hSk0 := hS
  have hSr := hC.actS hcl
  simp only [Option.toList_some, Option.toList_none, List.cons_append, List.nil_append]
  refine x_istore (L' := [(5, _), (4, _), (0, _), (1, _), (2, _), (3, _)]) Z dL_law_879 (Nat.le_of_ble_eq_true rfl) rfl ?_
  refine x_aload_n Z dL_law_881 rfl rfl ?_
  refine x_aload_n Z dL_law_882 rfl rfl ?_
  refine x_iload Z dL_law_883 rfl ?_
  refine x_iconst Z dL_law_885 ?_
  refine x_iadd Z dL_law_886 ?_
  refine x_sld Z hX (by omega) (by omega) dL_law_887 (fun hz887 => ?_)
  refine x_callV (ci := 5) (C := RX4) (T := TX4) (N := 7) Z okX4_mend q1191 q1192 q1193 rfl dL_law_888 (c_X4_mend h0 htr hSr (by assumption)) hSr.1 ⟨Nat.le_of_ble_eq_true rfl, Nat.le_of_ble_eq_true rfl, (by show _ + 1 ≤ 755723; omega), (by show _ + 30 ≤ 6834312; omega)⟩ rfl rfl (Nat.le_of_ble_eq_true rfl) (fun v9 w9 hR => ?_)
  obtain ⟨z6, rfl, hA6⟩ := hR
  obtain ⟨S6, y6, hI, hS6, hT6, ho6, hy6, hz50, hz52⟩ := hC.act hcl hA6 (Iff.rfl) (fun _ => Iff.rfl) (fun h _ => acSift_cg hcp.v h.1 h.2 (hSk0.n0 h.1 h.2) (hcp.mnd h.1 h.2 (hSk0.n0 h.1 h.2)))
  simp only [Option.toList_some, Option.toList_none, List.cons_append, List.nil_append]
  refine x_istore (L' := [(6, _), (5, _), (4, _), (0, _), (1, _), (2, _), (3, _)]) Z dL_law_891 (Nat.le_of_ble_eq_true rfl) rfl ?_
  refine x_goto Z 2244 dL_law_893 (by decide) ?_
  refine x_sub [2, 3, 4, 5, 6] rfl ?_
  refine x_wd (k' := k + 400) (n' := n + 40000) (by omega) (by omega) ?_
  exact join2244 _ hI
set_option maxRecDepth 100000 in
theorem arm_14 {b : gBt} {l : Launch} {s0 : State} {G : gK} (h0 : gS0 s0) (htr : l.stackTraces = false) (Z : gAm b l s0 G cL_law RL 7 room_1) {sa Ls : Nat} {xs : Nat → Int32} (hX : lX b s0 sa Ls xs) {k n : Nat} {K : kA} {R : rA} {oc : Nat} {w : wd} {i : Int} (hI : lI G w K R oc) (hi0 : 0 ≤ i) (hi4 : i + 4 ≤ Ls) (hk : k + 400 ≤ 755723) (hn : n + 40000 ≤ 6834312) (join2244 : ∀ w2 : wd, lI G w2 K R oc → gX b s0 G (k + 400) (n + 40000) 2244 [(4, iv i), (0, rv sa), (1, rv K.1), (2, rv R.1), (3, rv oc)] [] w2) : gX b s0 G k n 896 [(4, iv i), (0, rv sa), (1, rv K.1), (2, rv R.1), (3, rv oc)] [] w := by
  obtain ⟨-, -, -, hLs⟩ := id hX
  obtain ⟨M, S, yo, sv, hC⟩ := id hI
  obtain ⟨hS, hR2, ho, hd, hd2, hd3, hcp⟩ := id hC
  refine x_aload_n Z dL_law_896 rfl rfl ?_
  refine x_aload_n Z dL_law_897 rfl rfl ?_
  refine x_iload Z dL_law_898 rfl ?_
  refine x_iconst Z dL_law_900 ?_
  refine x_iadd Z dL_law_901 ?_
  refine x_sld Z hX (by omega) (by omega) dL_law_902 (fun hz902 => ?_)
  refine x_aload_n Z dL_law_903 rfl rfl ?_
  refine x_callSH Z okL_kind q494 q495 dL_law_904 (c_L_kind h0 htr hS (by assumption) ho hd) ⟨Nat.le_of_ble_eq_true rfl, Nat.le_of_ble_eq_true rfl, (by show _ + 1 ≤ 755723; omega), (by show _ + 6 ≤ 6834312; omega)⟩ rfl rfl (Nat.le_of_ble_eq_true rfl) (fun v9 w9 hR => ?_)
  obtain ⟨z5, rfl, hcl⟩ := hR
  obtain ⟨y5, hC9, -, -⟩ := hC.sq hcl
  have hC := hC9
  obtain ⟨hSk, hS, ho, hd, hd2, hd3, hcp⟩ := id hC
  simp only [Option.toList_some, Option.toList_none, List.cons_append, List.nil_append]
  refine x_istore (L' := [(5, _), (4, _), (0, _), (1, _), (2, _), (3, _)]) Z dL_law_907 (Nat.le_of_ble_eq_true rfl) rfl ?_
  refine x_aload_n Z dL_law_909 rfl rfl ?_
  refine x_aload_n Z dL_law_910 rfl rfl ?_
  refine x_iload Z dL_law_911 rfl ?_
  refine x_iconst Z dL_law_913 ?_
  refine x_iadd Z dL_law_914 ?_
  refine x_sld Z hX (by omega) (by omega) dL_law_915 (fun hz915 => ?_)
  refine x_callV (ci := 5) (C := RX4) (T := TX4) (N := 7) Z okX4_kind q1195 q1196 q1197 rfl dL_law_916 (c_X4_kind h0 htr hS (by assumption)) hS.1 ⟨Nat.le_of_ble_eq_true rfl, Nat.le_of_ble_eq_true rfl, (by show _ + 0 ≤ 755723; omega), (by show _ + 0 ≤ 6834312; omega)⟩ rfl rfl (Nat.le_of_ble_eq_true rfl) (fun v9 w9 hR => ?_)
  obtain ⟨z6, T6, rfl, hS6, hf6, -⟩ := hR
  have hI := hC.ref hS6 hf6
  simp only [Option.toList_some, Option.toList_none, List.cons_append, List.nil_append]
  refine x_istore (L' := [(6, _), (5, _), (4, _), (0, _), (1, _), (2, _), (3, _)]) Z dL_law_919 (Nat.le_of_ble_eq_true rfl) rfl ?_
  refine x_goto Z 2244 dL_law_921 (by decide) ?_
  refine x_sub [2, 3, 4, 5, 6] rfl ?_
  refine x_wd (k' := k + 400) (n' := n + 40000) (by omega) (by omega) ?_
  exact join2244 _ hI
set_option maxRecDepth 100000 in
theorem arm_15 {b : gBt} {l : Launch} {s0 : State} {G : gK} (h0 : gS0 s0) (htr : l.stackTraces = false) (Z : gAm b l s0 G cL_law RL 7 room_1) {sa Ls : Nat} {xs : Nat → Int32} (hX : lX b s0 sa Ls xs) {k n : Nat} {K : kA} {R : rA} {oc : Nat} {w : wd} {i : Int} (hI : lI G w K R oc) (hi0 : 0 ≤ i) (hi4 : i + 4 ≤ Ls) (hk : k + 400 ≤ 755723) (hn : n + 40000 ≤ 6834312) (join2244 : ∀ w2 : wd, lI G w2 K R oc → gX b s0 G (k + 400) (n + 40000) 2244 [(4, iv i), (0, rv sa), (1, rv K.1), (2, rv R.1), (3, rv oc)] [] w2) : gX b s0 G k n 924 [(4, iv i), (0, rv sa), (1, rv K.1), (2, rv R.1), (3, rv oc)] [] w := by
  obtain ⟨-, -, -, hLs⟩ := id hX
  obtain ⟨M, S, yo, sv, hC⟩ := id hI
  obtain ⟨hS, hR2, ho, hd, hd2, hd3, hcp⟩ := id hC
  refine x_aload_n Z dL_law_924 rfl rfl ?_
  refine x_aload_n Z dL_law_925 rfl rfl ?_
  refine x_iload Z dL_law_926 rfl ?_
  refine x_iconst Z dL_law_928 ?_
  refine x_iadd Z dL_law_929 ?_
  refine x_sld Z hX (by omega) (by omega) dL_law_930 (fun hz930 => ?_)
  refine x_aload_n Z dL_law_931 rfl rfl ?_
  refine x_iload Z dL_law_932 rfl ?_
  refine x_iconst Z dL_law_934 ?_
  refine x_iadd Z dL_law_935 ?_
  refine x_sld Z hX (by omega) (by omega) dL_law_936 (fun hz936 => ?_)
  refine x_aload_n Z dL_law_937 rfl rfl ?_
  refine x_callSH Z okL_ask q501 q502 dL_law_938 (c_L_ask h0 htr hS (by assumption) (by assumption) ho hd) ⟨Nat.le_of_ble_eq_true rfl, Nat.le_of_ble_eq_true rfl, (by show _ + 2 ≤ 755723; omega), (by show _ + 12 ≤ 6834312; omega)⟩ rfl rfl (Nat.le_of_ble_eq_true rfl) (fun v9 w9 hR => ?_)
  obtain ⟨z5, rfl, hcl⟩ := hR
  obtain ⟨y5, hC9, -, -⟩ := hC.sq hcl
  have hC := hC9
  obtain ⟨hSk, hS, ho, hd, hd2, hd3, hcp⟩ := id hC
  simp only [Option.toList_some, Option.toList_none, List.cons_append, List.nil_append]
  refine x_istore (L' := [(5, _), (4, _), (0, _), (1, _), (2, _), (3, _)]) Z dL_law_941 (Nat.le_of_ble_eq_true rfl) rfl ?_
  refine x_aload_n Z dL_law_943 rfl rfl ?_
  refine x_aload_n Z dL_law_944 rfl rfl ?_
  refine x_iload Z dL_law_945 rfl ?_
  refine x_iconst Z dL_law_947 ?_
  refine x_iadd Z dL_law_948 ?_
  refine x_sld Z hX (by omega) (by omega) dL_law_949 (fun hz949 => ?_)
  refine x_aload_n Z dL_law_950 rfl rfl ?_
  refine x_iload Z dL_law_951 rfl ?_
  refine x_iconst Z dL_law_953 ?_
  refine x_iadd Z dL_law_954 ?_
  refine x_sld Z hX (by omega) (by omega) dL_law_955 (fun hz955 => ?_)
  refine x_callV (ci := 5) (C := RX4) (T := TX4) (N := 7) Z okX4_ask q1199 q1200 q1201 rfl dL_law_956 (c_X4_ask h0 htr hS (by assumption) (by assumption)) hS.1 ⟨Nat.le_of_ble_eq_true rfl, Nat.le_of_ble_eq_true rfl, (by show _ + 0 ≤ 755723; omega), (by show _ + 0 ≤ 6834312; omega)⟩ rfl rfl (Nat.le_of_ble_eq_true rfl) (fun v9 w9 hR => ?_)
  obtain ⟨z6, T6, rfl, hS6, hf6, -⟩ := hR
  have hI := hC.ref hS6 hf6
  simp only [Option.toList_some, Option.toList_none, List.cons_append, List.nil_append]
  refine x_istore (L' := [(6, _), (5, _), (4, _), (0, _), (1, _), (2, _), (3, _)]) Z dL_law_959 (Nat.le_of_ble_eq_true rfl) rfl ?_
  refine x_goto Z 2244 dL_law_961 (by decide) ?_
  refine x_sub [2, 3, 4, 5, 6] rfl ?_
  refine x_wd (k' := k + 400) (n' := n + 40000) (by omega) (by omega) ?_
  exact join2244 _ hI
set_option maxRecDepth 100000 in
theorem arm_16 {b : gBt} {l : Launch} {s0 : State} {G : gK} (h0 : gS0 s0) (htr : l.stackTraces = false) (Z : gAm b l s0 G cL_law RL 7 room_1) {sa Ls : Nat} {xs : Nat → Int32} (hX : lX b s0 sa Ls xs) {k n : Nat} {K : kA} {R : rA} {oc : Nat} {w : wd} {i : Int} (hI : lI G w K R oc) (hi0 : 0 ≤ i) (hi4 : i + 4 ≤ Ls) (hk : k + 400 ≤ 755723) (hn : n + 40000 ≤ 6834312) (join2244 : ∀ w2 : wd, lI G w2 K R oc → gX b s0 G (k + 400) (n + 40000) 2244 [(4, iv i), (0, rv sa), (1, rv K.1), (2, rv R.1), (3, rv oc)] [] w2) : gX b s0 G k n 964 [(4, iv i), (0, rv sa), (1, rv K.1), (2, rv R.1), (3, rv oc)] [] w := by
  obtain ⟨-, -, -, hLs⟩ := id hX
  obtain ⟨M, S, yo, sv, hC⟩ := id hI
  obtain ⟨hS, hR2, ho, hd, hd2, hd3, hcp⟩ := id hC
  refine x_aload_n Z dL_law_964 rfl rfl ?_
  refine x_aload_n Z dL_law_965 rfl rfl ?_
  refine x_iload Z dL_law_966 rfl ?_
  refine x_iconst Z dL_law_968 ?_
  refine x_iadd Z dL_law_969 ?_
  refine x_sld Z hX (by omega) (by omega) dL_law_970 (fun hz970 => ?_)
  refine x_aload_n Z dL_law_971 rfl rfl ?_
  refine x_callSH Z okL_all q509 q510 dL_law_972 (c_L_all h0 htr hS (by assumption) ho hd) ⟨Nat.le_of_ble_eq_true rfl, Nat.le_of_ble_eq_true rfl, (by show _ + 1 ≤ 755723; omega), (by show _ + 6 ≤ 6834312; omega)⟩ rfl rfl (Nat.le_of_ble_eq_true rfl) (fun v9 w9 hR => ?_)
  obtain ⟨z5, rfl, hcl⟩ := hR
  obtain ⟨y5, hC9, -, -⟩ := hC.sq hcl
  have hC := hC9
  obtain ⟨hSk, hS, ho, hd, hd2, hd3, hcp⟩ := id hC
  simp only [Option.toList_some, Option.toList_none, List.cons_append, List.nil_append]
  refine x_istore (L' := [(5, _), (4, _), (0, _), (1, _), (2, _), (3, _)]) Z dL_law_975 (Nat.le_of_ble_eq_true rfl) rfl ?_
  refine x_aload_n Z dL_law_977 rfl rfl ?_
  refine x_aload_n Z dL_law_978 rfl rfl ?_
  refine x_iload Z dL_law_979 rfl ?_
  refine x_iconst Z dL_law_981 ?_
  refine x_iadd Z dL_law_982 ?_
  refine x_sld Z hX (by omega) (by omega) dL_law_983 (fun hz983 => ?_)
  refine x_callV (ci := 5) (C := RX4) (T := TX4) (N := 7) Z okX4_all q1203 q1204 q1205 rfl dL_law_984 (c_X4_all h0 htr hS (by assumption)) hS.1 ⟨Nat.le_of_ble_eq_true rfl, Nat.le_of_ble_eq_true rfl, (by show _ + 0 ≤ 755723; omega), (by show _ + 0 ≤ 6834312; omega)⟩ rfl rfl (Nat.le_of_ble_eq_true rfl) (fun v9 w9 hR => ?_)
  obtain ⟨z6, T6, rfl, hS6, hf6, -⟩ := hR
  have hI := hC.ref hS6 hf6
  simp only [Option.toList_some, Option.toList_none, List.cons_append, List.nil_append]
  refine x_istore (L' := [(6, _), (5, _), (4, _), (0, _), (1, _), (2, _), (3, _)]) Z dL_law_987 (Nat.le_of_ble_eq_true rfl) rfl ?_
  refine x_goto Z 2244 dL_law_989 (by decide) ?_
  refine x_sub [2, 3, 4, 5, 6] rfl ?_
  refine x_wd (k' := k + 400) (n' := n + 40000) (by omega) (by omega) ?_
  exact join2244 _ hI
set_option maxRecDepth 100000 in
theorem arm_17 {b : gBt} {l : Launch} {s0 : State} {G : gK} (h0 : gS0 s0) (htr : l.stackTraces = false) (Z : gAm b l s0 G cL_law RL 7 room_1) {sa Ls : Nat} {xs : Nat → Int32} (hX : lX b s0 sa Ls xs) {k n : Nat} {K : kA} {R : rA} {oc : Nat} {w : wd} {i : Int} (hI : lI G w K R oc) (hi0 : 0 ≤ i) (hi4 : i + 4 ≤ Ls) (hk : k + 400 ≤ 755723) (hn : n + 40000 ≤ 6834312) (join2244 : ∀ w2 : wd, lI G w2 K R oc → gX b s0 G (k + 400) (n + 40000) 2244 [(4, iv i), (0, rv sa), (1, rv K.1), (2, rv R.1), (3, rv oc)] [] w2) : gX b s0 G k n 992 [(4, iv i), (0, rv sa), (1, rv K.1), (2, rv R.1), (3, rv oc)] [] w := by
  obtain ⟨-, -, -, hLs⟩ := id hX
  obtain ⟨M, S, yo, sv, hC⟩ := id hI
  obtain ⟨hS, hR2, ho, hd, hd2, hd3, hcp⟩ := id hC
  refine x_aload_n Z dL_law_992 rfl rfl ?_
  refine x_aload_n Z dL_law_993 rfl rfl ?_
  refine x_iload Z dL_law_994 rfl ?_
  refine x_iconst Z dL_law_996 ?_
  refine x_iadd Z dL_law_997 ?_
  refine x_sld Z hX (by omega) (by omega) dL_law_998 (fun hz998 => ?_)
  refine x_aload_n Z dL_law_999 rfl rfl ?_
  refine x_iload Z dL_law_1000 rfl ?_
  refine x_iconst Z dL_law_1002 ?_
  refine x_iadd Z dL_law_1003 ?_
  refine x_sld Z hX (by omega) (by omega) dL_law_1004 (fun hz1004 => ?_)
  refine x_aload_n Z dL_law_1005 rfl rfl ?_
  refine x_callSH Z okL_nth q516 q517 dL_law_1006 (c_L_nth h0 htr hS (by assumption) (by assumption) ho hd) ⟨Nat.le_of_ble_eq_true rfl, Nat.le_of_ble_eq_true rfl, (by show _ + 2 ≤ 755723; omega), (by show _ + 12 ≤ 6834312; omega)⟩ rfl rfl (Nat.le_of_ble_eq_true rfl) (fun v9 w9 hR => ?_)
  obtain ⟨z5, rfl, hcl⟩ := hR
  obtain ⟨y5, hC9, -, -⟩ := hC.sq hcl
  have hC := hC9
  obtain ⟨hSk, hS, ho, hd, hd2, hd3, hcp⟩ := id hC
  simp only [Option.toList_some, Option.toList_none, List.cons_append, List.nil_append]
  refine x_istore (L' := [(5, _), (4, _), (0, _), (1, _), (2, _), (3, _)]) Z dL_law_1009 (Nat.le_of_ble_eq_true rfl) rfl ?_
  refine x_aload_n Z dL_law_1011 rfl rfl ?_
  refine x_aload_n Z dL_law_1012 rfl rfl ?_
  refine x_iload Z dL_law_1013 rfl ?_
  refine x_iconst Z dL_law_1015 ?_
  refine x_iadd Z dL_law_1016 ?_
  refine x_sld Z hX (by omega) (by omega) dL_law_1017 (fun hz1017 => ?_)
  refine x_aload_n Z dL_law_1018 rfl rfl ?_
  refine x_iload Z dL_law_1019 rfl ?_
  refine x_iconst Z dL_law_1021 ?_
  refine x_iadd Z dL_law_1022 ?_
  refine x_sld Z hX (by omega) (by omega) dL_law_1023 (fun hz1023 => ?_)
  refine x_callV (ci := 5) (C := RX4) (T := TX4) (N := 7) Z okX4_nth q1207 q1208 q1209 rfl dL_law_1024 (c_X4_nth h0 htr hS (by assumption) (by assumption)) hS.1 ⟨Nat.le_of_ble_eq_true rfl, Nat.le_of_ble_eq_true rfl, (by show _ + 0 ≤ 755723; omega), (by show _ + 0 ≤ 6834312; omega)⟩ rfl rfl (Nat.le_of_ble_eq_true rfl) (fun v9 w9 hR => ?_)
  obtain ⟨z6, T6, rfl, hS6, hf6, -⟩ := hR
  have hI := hC.ref hS6 hf6
  simp only [Option.toList_some, Option.toList_none, List.cons_append, List.nil_append]
  refine x_istore (L' := [(6, _), (5, _), (4, _), (0, _), (1, _), (2, _), (3, _)]) Z dL_law_1027 (Nat.le_of_ble_eq_true rfl) rfl ?_
  refine x_goto Z 2244 dL_law_1029 (by decide) ?_
  refine x_sub [2, 3, 4, 5, 6] rfl ?_
  refine x_wd (k' := k + 400) (n' := n + 40000) (by omega) (by omega) ?_
  exact join2244 _ hI
set_option maxRecDepth 100000 in
theorem arm_18 {b : gBt} {l : Launch} {s0 : State} {G : gK} (h0 : gS0 s0) (htr : l.stackTraces = false) (Z : gAm b l s0 G cL_law RL 7 room_1) {sa Ls : Nat} {xs : Nat → Int32} (hX : lX b s0 sa Ls xs) {k n : Nat} {K : kA} {R : rA} {oc : Nat} {w : wd} {i : Int} (hI : lI G w K R oc) (hi0 : 0 ≤ i) (hi4 : i + 4 ≤ Ls) (hk : k + 400 ≤ 755723) (hn : n + 40000 ≤ 6834312) (join2244 : ∀ w2 : wd, lI G w2 K R oc → gX b s0 G (k + 400) (n + 40000) 2244 [(4, iv i), (0, rv sa), (1, rv K.1), (2, rv R.1), (3, rv oc)] [] w2) : gX b s0 G k n 1032 [(4, iv i), (0, rv sa), (1, rv K.1), (2, rv R.1), (3, rv oc)] [] w := by
  obtain ⟨-, -, -, hLs⟩ := id hX
  obtain ⟨M, S, yo, sv, hC⟩ := id hI
  obtain ⟨hS, hR2, ho, hd, hd2, hd3, hcp⟩ := id hC
  refine x_aload_n Z dL_law_1032 rfl rfl ?_
  refine x_aload_n Z dL_law_1033 rfl rfl ?_
  refine x_iload Z dL_law_1034 rfl ?_
  refine x_iconst Z dL_law_1036 ?_
  refine x_iadd Z dL_law_1037 ?_
  refine x_sld Z hX (by omega) (by omega) dL_law_1038 (fun hz1038 => ?_)
  refine x_aload_n Z dL_law_1039 rfl rfl ?_
  refine x_iload Z dL_law_1040 rfl ?_
  refine x_iconst Z dL_law_1042 ?_
  refine x_iadd Z dL_law_1043 ?_
  refine x_sld Z hX (by omega) (by omega) dL_law_1044 (fun hz1044 => ?_)
  refine x_aload_n Z dL_law_1045 rfl rfl ?_
  refine x_iload Z dL_law_1046 rfl ?_
  refine x_iconst Z dL_law_1048 ?_
  refine x_iadd Z dL_law_1049 ?_
  refine x_sld Z hX (by omega) (by omega) dL_law_1050 (fun hz1050 => ?_)
  refine x_if_eq Z 1058 dL_law_1051 (by decide) ⟨by omega, by omega⟩ (fun c1051 => ?_) (fun c1051 => ?_)
  ·
    refine x_ib false Z dL_law_1058 (by decide) ?_
    refine x_aload_n Z dL_law_1059 rfl rfl ?_
    refine x_callSH Z okL_next q523 q524 dL_law_1060 (c_L_next h0 htr hS (by assumption) (by assumption) ho hd) ⟨Nat.le_of_ble_eq_true rfl, Nat.le_of_ble_eq_true rfl, (by show _ + 2 ≤ 755723; omega), (by show _ + 12 ≤ 6834312; omega)⟩ rfl rfl (Nat.le_of_ble_eq_true rfl) (fun v9 w9 hR => ?_)
    obtain ⟨z5, rfl, hcl⟩ := hR
    obtain ⟨y5, hC9, -, -⟩ := hC.sq hcl
    have hC := hC9
    obtain ⟨hSk, hS, ho, hd, hd2, hd3, hcp⟩ := id hC
    simp only [Option.toList_some, Option.toList_none, List.cons_append, List.nil_append]
    refine x_istore (L' := [(5, _), (4, _), (0, _), (1, _), (2, _), (3, _)]) Z dL_law_1063 (Nat.le_of_ble_eq_true rfl) rfl ?_
    refine x_aload_n Z dL_law_1065 rfl rfl ?_
    refine x_aload_n Z dL_law_1066 rfl rfl ?_
    refine x_iload Z dL_law_1067 rfl ?_
    refine x_iconst Z dL_law_1069 ?_
    refine x_iadd Z dL_law_1070 ?_
    refine x_sld Z hX (by omega) (by omega) dL_law_1071 (fun hz1071 => ?_)
    refine x_aload_n Z dL_law_1072 rfl rfl ?_
    refine x_iload Z dL_law_1073 rfl ?_
    refine x_iconst Z dL_law_1075 ?_
    refine x_iadd Z dL_law_1076 ?_
    refine x_sld Z hX (by omega) (by omega) dL_law_1077 (fun hz1077 => ?_)
    refine x_aload_n Z dL_law_1078 rfl rfl ?_
    refine x_iload Z dL_law_1079 rfl ?_
    refine x_iconst Z dL_law_1081 ?_
    refine x_iadd Z dL_law_1082 ?_
    refine x_sld Z hX (by omega) (by omega) dL_law_1083 (fun hz1083 => ?_)
    refine x_if_eq Z 1091 dL_law_1084 (by decide) ⟨by omega, by omega⟩ (fun c1084 => ?_) (fun c1084 => ?_)
    ·
      refine x_ib false Z dL_law_1091 (by decide) ?_
      refine x_callV (ci := 5) (C := RX4) (T := TX4) (N := 7) Z okX4_next q1211 q1212 q1213 rfl dL_law_1092 (c_X4_next h0 htr hS (by assumption) (by assumption)) hS.1 ⟨Nat.le_of_ble_eq_true rfl, Nat.le_of_ble_eq_true rfl, (by show _ + 0 ≤ 755723; omega), (by show _ + 0 ≤ 6834312; omega)⟩ rfl rfl (Nat.le_of_ble_eq_true rfl) (fun v9 w9 hR => ?_)
      obtain ⟨z6, T6, rfl, hS6, hf6, -⟩ := hR
      have hI := hC.ref hS6 hf6
      simp only [Option.toList_some, Option.toList_none, List.cons_append, List.nil_append]
      refine x_istore (L' := [(6, _), (5, _), (4, _), (0, _), (1, _), (2, _), (3, _)]) Z dL_law_1095 (Nat.le_of_ble_eq_true rfl) rfl ?_
      refine x_goto Z 2244 dL_law_1097 (by decide) ?_
      refine x_sub [2, 3, 4, 5, 6] rfl ?_
      refine x_wd (k' := k + 400) (n' := n + 40000) (by omega) (by omega) ?_
      exact join2244 _ hI
    ·
      refine x_ib true Z dL_law_1087 (by decide) ?_
      refine x_goto Z 1092 dL_law_1088 (by decide) ?_
      refine x_callV (ci := 5) (C := RX4) (T := TX4) (N := 7) Z okX4_next q1211 q1212 q1213 rfl dL_law_1092 (c_X4_next h0 htr hS (by assumption) (by assumption)) hS.1 ⟨Nat.le_of_ble_eq_true rfl, Nat.le_of_ble_eq_true rfl, (by show _ + 0 ≤ 755723; omega), (by show _ + 0 ≤ 6834312; omega)⟩ rfl rfl (Nat.le_of_ble_eq_true rfl) (fun v9 w9 hR => ?_)
      obtain ⟨z6, T6, rfl, hS6, hf6, -⟩ := hR
      have hI := hC.ref hS6 hf6
      simp only [Option.toList_some, Option.toList_none, List.cons_append, List.nil_append]
      refine x_istore (L' := [(6, _), (5, _), (4, _), (0, _), (1, _), (2, _), (3, _)]) Z dL_law_1095 (Nat.le_of_ble_eq_true rfl) rfl ?_
      refine x_goto Z 2244 dL_law_1097 (by decide) ?_
      refine x_sub [2, 3, 4, 5, 6] rfl ?_
      refine x_wd (k' := k + 400) (n' := n + 40000) (by omega) (by omega) ?_
      exact join2244 _ hI
  ·
    refine x_ib true Z dL_law_1054 (by decide) ?_
    refine x_goto Z 1059 dL_law_1055 (by decide) ?_
    refine x_aload_n Z dL_law_1059 rfl rfl ?_
    refine x_callSH Z okL_next q523 q524 dL_law_1060 (c_L_next h0 htr hS (by assumption) (by assumption) ho hd) ⟨Nat.le_of_ble_eq_true rfl, Nat.le_of_ble_eq_true rfl, (by show _ + 2 ≤ 755723; omega), (by show _ + 12 ≤ 6834312; omega)⟩ rfl rfl (Nat.le_of_ble_eq_true rfl) (fun v9 w9 hR => ?_)
    obtain ⟨z5, rfl, hcl⟩ := hR
    obtain ⟨y5, hC9, -, -⟩ := hC.sq hcl
    have hC := hC9
    obtain ⟨hSk, hS, ho, hd, hd2, hd3, hcp⟩ := id hC
    simp only [Option.toList_some, Option.toList_none, List.cons_append, List.nil_append]
    refine x_istore (L' := [(5, _), (4, _), (0, _), (1, _), (2, _), (3, _)]) Z dL_law_1063 (Nat.le_of_ble_eq_true rfl) rfl ?_
    refine x_aload_n Z dL_law_1065 rfl rfl ?_
    refine x_aload_n Z dL_law_1066 rfl rfl ?_
    refine x_iload Z dL_law_1067 rfl ?_
    refine x_iconst Z dL_law_1069 ?_
    refine x_iadd Z dL_law_1070 ?_
    refine x_sld Z hX (by omega) (by omega) dL_law_1071 (fun hz1071 => ?_)
    refine x_aload_n Z dL_law_1072 rfl rfl ?_
    refine x_iload Z dL_law_1073 rfl ?_
    refine x_iconst Z dL_law_1075 ?_
    refine x_iadd Z dL_law_1076 ?_
    refine x_sld Z hX (by omega) (by omega) dL_law_1077 (fun hz1077 => ?_)
    refine x_aload_n Z dL_law_1078 rfl rfl ?_
    refine x_iload Z dL_law_1079 rfl ?_
    refine x_iconst Z dL_law_1081 ?_
    refine x_iadd Z dL_law_1082 ?_
    refine x_sld Z hX (by omega) (by omega) dL_law_1083 (fun hz1083 => ?_)
    refine x_if_eq Z 1091 dL_law_1084 (by decide) ⟨by omega, by omega⟩ (fun c1084 => ?_) (fun c1084 => ?_)
    ·
      refine x_ib false Z dL_law_1091 (by decide) ?_
      refine x_callV (ci := 5) (C := RX4) (T := TX4) (N := 7) Z okX4_next q1211 q1212 q1213 rfl dL_law_1092 (c_X4_next h0 htr hS (by assumption) (by assumption)) hS.1 ⟨Nat.le_of_ble_eq_true rfl, Nat.le_of_ble_eq_true rfl, (by show _ + 0 ≤ 755723; omega), (by show _ + 0 ≤ 6834312; omega)⟩ rfl rfl (Nat.le_of_ble_eq_true rfl) (fun v9 w9 hR => ?_)
      obtain ⟨z6, T6, rfl, hS6, hf6, -⟩ := hR
      have hI := hC.ref hS6 hf6
      simp only [Option.toList_some, Option.toList_none, List.cons_append, List.nil_append]
      refine x_istore (L' := [(6, _), (5, _), (4, _), (0, _), (1, _), (2, _), (3, _)]) Z dL_law_1095 (Nat.le_of_ble_eq_true rfl) rfl ?_
      refine x_goto Z 2244 dL_law_1097 (by decide) ?_
      refine x_sub [2, 3, 4, 5, 6] rfl ?_
      refine x_wd (k' := k + 400) (n' := n + 40000) (by omega) (by omega) ?_
      exact join2244 _ hI
    ·
      refine x_ib true Z dL_law_1087 (by decide) ?_
      refine x_goto Z 1092 dL_law_1088 (by decide) ?_
      refine x_callV (ci := 5) (C := RX4) (T := TX4) (N := 7) Z okX4_next q1211 q1212 q1213 rfl dL_law_1092 (c_X4_next h0 htr hS (by assumption) (by assumption)) hS.1 ⟨Nat.le_of_ble_eq_true rfl, Nat.le_of_ble_eq_true rfl, (by show _ + 0 ≤ 755723; omega), (by show _ + 0 ≤ 6834312; omega)⟩ rfl rfl (Nat.le_of_ble_eq_true rfl) (fun v9 w9 hR => ?_)
      obtain ⟨z6, T6, rfl, hS6, hf6, -⟩ := hR
      have hI := hC.ref hS6 hf6
      simp only [Option.toList_some, Option.toList_none, List.cons_append, List.nil_append]
      refine x_istore (L' := [(6, _), (5, _), (4, _), (0, _), (1, _), (2, _), (3, _)]) Z dL_law_1095 (Nat.le_of_ble_eq_true rfl) rfl ?_
      refine x_goto Z 2244 dL_law_1097 (by decide) ?_
      refine x_sub [2, 3, 4, 5, 6] rfl ?_
      refine x_wd (k' := k + 400) (n' := n + 40000) (by omega) (by omega) ?_
      exact join2244 _ hI
set_option maxRecDepth 100000 in
theorem arm_19 {b : gBt} {l : Launch} {s0 : State} {G : gK} (h0 : gS0 s0) (htr : l.stackTraces = false) (Z : gAm b l s0 G cL_law RL 7 room_1) {sa Ls : Nat} {xs : Nat → Int32} (hX : lX b s0 sa Ls xs) {k n : Nat} {K : kA} {R : rA} {oc : Nat} {w : wd} {i : Int} (hI : lI G w K R oc) (hi0 : 0 ≤ i) (hi4 : i + 4 ≤ Ls) (hk : k + 400 ≤ 755723) (hn : n + 40000 ≤ 6834312) (join2244 : ∀ w2 : wd, lI G w2 K R oc → gX b s0 G (k + 400) (n + 40000) 2244 [(4, iv i), (0, rv sa), (1, rv K.1), (2, rv R.1), (3, rv oc)] [] w2) : gX b s0 G k n 1100 [(4, iv i), (0, rv sa), (1, rv K.1), (2, rv R.1), (3, rv oc)] [] w := by
  obtain ⟨-, -, -, hLs⟩ := id hX
  obtain ⟨M, S, yo, sv, hC⟩ := id hI
  obtain ⟨hS, hR2, ho, hd, hd2, hd3, hcp⟩ := id hC
  refine x_aload_n Z dL_law_1100 rfl rfl ?_
  refine x_aload_n Z dL_law_1101 rfl rfl ?_
  refine x_iload Z dL_law_1102 rfl ?_
  refine x_iconst Z dL_law_1104 ?_
  refine x_iadd Z dL_law_1105 ?_
  refine x_sld Z hX (by omega) (by omega) dL_law_1106 (fun hz1106 => ?_)
  refine x_aload_n Z dL_law_1107 rfl rfl ?_
  refine x_iload Z dL_law_1108 rfl ?_
  refine x_iconst Z dL_law_1110 ?_
  refine x_iadd Z dL_law_1111 ?_
  refine x_sld Z hX (by omega) (by omega) dL_law_1112 (fun hz1112 => ?_)
  refine x_aload_n Z dL_law_1113 rfl rfl ?_
  refine x_callSH Z okL_run q530 q531 dL_law_1114 (c_L_run h0 htr hS (by assumption) (by assumption) ho hd) ⟨Nat.le_of_ble_eq_true rfl, Nat.le_of_ble_eq_true rfl, (by show _ + 2 ≤ 755723; omega), (by show _ + 12 ≤ 6834312; omega)⟩ rfl rfl (Nat.le_of_ble_eq_true rfl) (fun v9 w9 hR => ?_)
  obtain ⟨z5, rfl, hcl⟩ := hR
  obtain ⟨y5, hC9, -, -⟩ := hC.sq hcl
  have hC := hC9
  obtain ⟨hSk, hS, ho, hd, hd2, hd3, hcp⟩ := id hC
  simp only [Option.toList_some, Option.toList_none, List.cons_append, List.nil_append]
  refine x_istore (L' := [(5, _), (4, _), (0, _), (1, _), (2, _), (3, _)]) Z dL_law_1117 (Nat.le_of_ble_eq_true rfl) rfl ?_
  refine x_aload_n Z dL_law_1119 rfl rfl ?_
  refine x_aload_n Z dL_law_1120 rfl rfl ?_
  refine x_iload Z dL_law_1121 rfl ?_
  refine x_iconst Z dL_law_1123 ?_
  refine x_iadd Z dL_law_1124 ?_
  refine x_sld Z hX (by omega) (by omega) dL_law_1125 (fun hz1125 => ?_)
  refine x_aload_n Z dL_law_1126 rfl rfl ?_
  refine x_iload Z dL_law_1127 rfl ?_
  refine x_iconst Z dL_law_1129 ?_
  refine x_iadd Z dL_law_1130 ?_
  refine x_sld Z hX (by omega) (by omega) dL_law_1131 (fun hz1131 => ?_)
  refine x_callV (ci := 5) (C := RX4) (T := TX4) (N := 7) Z okX4_run q1215 q1216 q1217 rfl dL_law_1132 (c_X4_run h0 htr hS (by assumption) (by assumption)) hS.1 ⟨Nat.le_of_ble_eq_true rfl, Nat.le_of_ble_eq_true rfl, (by show _ + 0 ≤ 755723; omega), (by show _ + 0 ≤ 6834312; omega)⟩ rfl rfl (Nat.le_of_ble_eq_true rfl) (fun v9 w9 hR => ?_)
  obtain ⟨z6, T6, rfl, hS6, hf6, -⟩ := hR
  have hI := hC.ref hS6 hf6
  simp only [Option.toList_some, Option.toList_none, List.cons_append, List.nil_append]
  refine x_istore (L' := [(6, _), (5, _), (4, _), (0, _), (1, _), (2, _), (3, _)]) Z dL_law_1135 (Nat.le_of_ble_eq_true rfl) rfl ?_
  refine x_goto Z 2244 dL_law_1137 (by decide) ?_
  refine x_sub [2, 3, 4, 5, 6] rfl ?_
  refine x_wd (k' := k + 400) (n' := n + 40000) (by omega) (by omega) ?_
  exact join2244 _ hI
set_option maxRecDepth 100000 in
theorem arm_20 {b : gBt} {l : Launch} {s0 : State} {G : gK} (h0 : gS0 s0) (htr : l.stackTraces = false) (Z : gAm b l s0 G cL_law RL 7 room_1) {sa Ls : Nat} {xs : Nat → Int32} (hX : lX b s0 sa Ls xs) {k n : Nat} {K : kA} {R : rA} {oc : Nat} {w : wd} {i : Int} (hI : lI G w K R oc) (hi0 : 0 ≤ i) (hi4 : i + 4 ≤ Ls) (hk : k + 400 ≤ 755723) (hn : n + 40000 ≤ 6834312) (join2244 : ∀ w2 : wd, lI G w2 K R oc → gX b s0 G (k + 400) (n + 40000) 2244 [(4, iv i), (0, rv sa), (1, rv K.1), (2, rv R.1), (3, rv oc)] [] w2) : gX b s0 G k n 1140 [(4, iv i), (0, rv sa), (1, rv K.1), (2, rv R.1), (3, rv oc)] [] w := by
  obtain ⟨-, -, -, hLs⟩ := id hX
  obtain ⟨M, S, yo, sv, hC⟩ := id hI
  obtain ⟨hS, hR2, ho, hd, hd2, hd3, hcp⟩ := id hC
  refine x_aload_n Z dL_law_1140 rfl rfl ?_
  refine x_aload_n Z dL_law_1141 rfl rfl ?_
  refine x_iload Z dL_law_1142 rfl ?_
  refine x_iconst Z dL_law_1144 ?_
  refine x_iadd Z dL_law_1145 ?_
  refine x_sld Z hX (by omega) (by omega) dL_law_1146 (fun hz1146 => ?_)
  refine x_aload_n Z dL_law_1147 rfl rfl ?_
  refine x_iload Z dL_law_1148 rfl ?_
  refine x_iconst Z dL_law_1150 ?_
  refine x_iadd Z dL_law_1151 ?_
  refine x_sld Z hX (by omega) (by omega) dL_law_1152 (fun hz1152 => ?_)
  refine x_aload_n Z dL_law_1153 rfl rfl ?_
  refine x_iload Z dL_law_1154 rfl ?_
  refine x_iconst Z dL_law_1156 ?_
  refine x_iadd Z dL_law_1157 ?_
  refine x_sld Z hX (by omega) (by omega) dL_law_1158 (fun hz1158 => ?_)
  refine x_aload_n Z dL_law_1159 rfl rfl ?_
  refine x_callSH Z okL_ofKind q537 q538 dL_law_1160 (c_L_ofKind h0 htr hS (by assumption) (by assumption) (by assumption) ho hd) ⟨Nat.le_of_ble_eq_true rfl, Nat.le_of_ble_eq_true rfl, (by show _ + 4 ≤ 755723; omega), (by show _ + 24 ≤ 6834312; omega)⟩ rfl rfl (Nat.le_of_ble_eq_true rfl) (fun v9 w9 hR => ?_)
  obtain ⟨z5, rfl, hcl⟩ := hR
  obtain ⟨y5, hC9, -, -⟩ := hC.sq hcl
  have hC := hC9
  obtain ⟨hSk, hS, ho, hd, hd2, hd3, hcp⟩ := id hC
  simp only [Option.toList_some, Option.toList_none, List.cons_append, List.nil_append]
  refine x_istore (L' := [(5, _), (4, _), (0, _), (1, _), (2, _), (3, _)]) Z dL_law_1163 (Nat.le_of_ble_eq_true rfl) rfl ?_
  refine x_aload_n Z dL_law_1165 rfl rfl ?_
  refine x_aload_n Z dL_law_1166 rfl rfl ?_
  refine x_iload Z dL_law_1167 rfl ?_
  refine x_iconst Z dL_law_1169 ?_
  refine x_iadd Z dL_law_1170 ?_
  refine x_sld Z hX (by omega) (by omega) dL_law_1171 (fun hz1171 => ?_)
  refine x_aload_n Z dL_law_1172 rfl rfl ?_
  refine x_iload Z dL_law_1173 rfl ?_
  refine x_iconst Z dL_law_1175 ?_
  refine x_iadd Z dL_law_1176 ?_
  refine x_sld Z hX (by omega) (by omega) dL_law_1177 (fun hz1177 => ?_)
  refine x_aload_n Z dL_law_1178 rfl rfl ?_
  refine x_iload Z dL_law_1179 rfl ?_
  refine x_iconst Z dL_law_1181 ?_
  refine x_iadd Z dL_law_1182 ?_
  refine x_sld Z hX (by omega) (by omega) dL_law_1183 (fun hz1183 => ?_)
  refine x_callV (ci := 5) (C := RX4) (T := TX4) (N := 7) Z okX4_ofKind q1219 q1220 q1221 rfl dL_law_1184 (c_X4_ofKind h0 htr hS (by assumption) (by assumption) (by assumption)) hS.1 ⟨Nat.le_of_ble_eq_true rfl, Nat.le_of_ble_eq_true rfl, (by show _ + 0 ≤ 755723; omega), (by show _ + 0 ≤ 6834312; omega)⟩ rfl rfl (Nat.le_of_ble_eq_true rfl) (fun v9 w9 hR => ?_)
  obtain ⟨z6, T6, rfl, hS6, hf6, -⟩ := hR
  have hI := hC.ref hS6 hf6
  simp only [Option.toList_some, Option.toList_none, List.cons_append, List.nil_append]
  refine x_istore (L' := [(6, _), (5, _), (4, _), (0, _), (1, _), (2, _), (3, _)]) Z dL_law_1187 (Nat.le_of_ble_eq_true rfl) rfl ?_
  refine x_goto Z 2244 dL_law_1189 (by decide) ?_
  refine x_sub [2, 3, 4, 5, 6] rfl ?_
  refine x_wd (k' := k + 400) (n' := n + 40000) (by omega) (by omega) ?_
  exact join2244 _ hI
set_option maxRecDepth 100000 in
theorem arm_21 {b : gBt} {l : Launch} {s0 : State} {G : gK} (h0 : gS0 s0) (htr : l.stackTraces = false) (Z : gAm b l s0 G cL_law RL 7 room_1) {sa Ls : Nat} {xs : Nat → Int32} (hX : lX b s0 sa Ls xs) {k n : Nat} {K : kA} {R : rA} {oc : Nat} {w : wd} {i : Int} (hI : lI G w K R oc) (hi0 : 0 ≤ i) (hi4 : i + 4 ≤ Ls) (hk : k + 400 ≤ 755723) (hn : n + 40000 ≤ 6834312) (join2244 : ∀ w2 : wd, lI G w2 K R oc → gX b s0 G (k + 400) (n + 40000) 2244 [(4, iv i), (0, rv sa), (1, rv K.1), (2, rv R.1), (3, rv oc)] [] w2) : gX b s0 G k n 1192 [(4, iv i), (0, rv sa), (1, rv K.1), (2, rv R.1), (3, rv oc)] [] w := by
  obtain ⟨-, -, -, hLs⟩ := id hX
  obtain ⟨M, S, yo, sv, hC⟩ := id hI
  obtain ⟨hS, hR2, ho, hd, hd2, hd3, hcp⟩ := id hC
  refine x_aload_n Z dL_law_1192 rfl rfl ?_
  refine x_aload_n Z dL_law_1193 rfl rfl ?_
  refine x_iload Z dL_law_1194 rfl ?_
  refine x_iconst Z dL_law_1196 ?_
  refine x_iadd Z dL_law_1197 ?_
  refine x_sld Z hX (by omega) (by omega) dL_law_1198 (fun hz1198 => ?_)
  refine x_aload_n Z dL_law_1199 rfl rfl ?_
  refine x_iload Z dL_law_1200 rfl ?_
  refine x_iconst Z dL_law_1202 ?_
  refine x_iadd Z dL_law_1203 ?_
  refine x_sld Z hX (by omega) (by omega) dL_law_1204 (fun hz1204 => ?_)
  refine x_aload_n Z dL_law_1205 rfl rfl ?_
  refine x_iload Z dL_law_1206 rfl ?_
  refine x_iconst Z dL_law_1208 ?_
  refine x_iadd Z dL_law_1209 ?_
  refine x_sld Z hX (by omega) (by omega) dL_law_1210 (fun hz1210 => ?_)
  refine x_aload_n Z dL_law_1211 rfl rfl ?_
  refine x_callSH Z okL_ofQuestion q547 q548 dL_law_1212 (c_L_ofQuestion h0 htr hS (by assumption) (by assumption) (by assumption) ho hd) ⟨Nat.le_of_ble_eq_true rfl, Nat.le_of_ble_eq_true rfl, (by show _ + 4 ≤ 755723; omega), (by show _ + 24 ≤ 6834312; omega)⟩ rfl rfl (Nat.le_of_ble_eq_true rfl) (fun v9 w9 hR => ?_)
  obtain ⟨z5, rfl, hcl⟩ := hR
  obtain ⟨y5, hC9, -, -⟩ := hC.sq hcl
  have hC := hC9
  obtain ⟨hSk, hS, ho, hd, hd2, hd3, hcp⟩ := id hC
  simp only [Option.toList_some, Option.toList_none, List.cons_append, List.nil_append]
  refine x_istore (L' := [(5, _), (4, _), (0, _), (1, _), (2, _), (3, _)]) Z dL_law_1215 (Nat.le_of_ble_eq_true rfl) rfl ?_
  refine x_aload_n Z dL_law_1217 rfl rfl ?_
  refine x_aload_n Z dL_law_1218 rfl rfl ?_
  refine x_iload Z dL_law_1219 rfl ?_
  refine x_iconst Z dL_law_1221 ?_
  refine x_iadd Z dL_law_1222 ?_
  refine x_sld Z hX (by omega) (by omega) dL_law_1223 (fun hz1223 => ?_)
  refine x_aload_n Z dL_law_1224 rfl rfl ?_
  refine x_iload Z dL_law_1225 rfl ?_
  refine x_iconst Z dL_law_1227 ?_
  refine x_iadd Z dL_law_1228 ?_
  refine x_sld Z hX (by omega) (by omega) dL_law_1229 (fun hz1229 => ?_)
  refine x_aload_n Z dL_law_1230 rfl rfl ?_
  refine x_iload Z dL_law_1231 rfl ?_
  refine x_iconst Z dL_law_1233 ?_
  refine x_iadd Z dL_law_1234 ?_
  refine x_sld Z hX (by omega) (by omega) dL_law_1235 (fun hz1235 => ?_)
  refine x_callV (ci := 5) (C := RX4) (T := TX4) (N := 7) Z okX4_ofQuestion q1226 q1227 q1228 rfl dL_law_1236 (c_X4_ofQuestion h0 htr hS (by assumption) (by assumption) (by assumption)) hS.1 ⟨Nat.le_of_ble_eq_true rfl, Nat.le_of_ble_eq_true rfl, (by show _ + 0 ≤ 755723; omega), (by show _ + 0 ≤ 6834312; omega)⟩ rfl rfl (Nat.le_of_ble_eq_true rfl) (fun v9 w9 hR => ?_)
  obtain ⟨z6, T6, rfl, hS6, hf6, -⟩ := hR
  have hI := hC.ref hS6 hf6
  simp only [Option.toList_some, Option.toList_none, List.cons_append, List.nil_append]
  refine x_istore (L' := [(6, _), (5, _), (4, _), (0, _), (1, _), (2, _), (3, _)]) Z dL_law_1239 (Nat.le_of_ble_eq_true rfl) rfl ?_
  refine x_goto Z 2244 dL_law_1241 (by decide) ?_
  refine x_sub [2, 3, 4, 5, 6] rfl ?_
  refine x_wd (k' := k + 400) (n' := n + 40000) (by omega) (by omega) ?_
  exact join2244 _ hI
set_option maxRecDepth 100000 in
theorem arm_22 {b : gBt} {l : Launch} {s0 : State} {G : gK} (h0 : gS0 s0) (htr : l.stackTraces = false) (Z : gAm b l s0 G cL_law RL 7 room_1) {sa Ls : Nat} {xs : Nat → Int32} (hX : lX b s0 sa Ls xs) {k n : Nat} {K : kA} {R : rA} {oc : Nat} {w : wd} {i : Int} (hI : lI G w K R oc) (hi0 : 0 ≤ i) (hi4 : i + 4 ≤ Ls) (hk : k + 400 ≤ 755723) (hn : n + 40000 ≤ 6834312) (join2244 : ∀ w2 : wd, lI G w2 K R oc → gX b s0 G (k + 400) (n + 40000) 2244 [(4, iv i), (0, rv sa), (1, rv K.1), (2, rv R.1), (3, rv oc)] [] w2) : gX b s0 G k n 1244 [(4, iv i), (0, rv sa), (1, rv K.1), (2, rv R.1), (3, rv oc)] [] w := by
  obtain ⟨-, -, -, hLs⟩ := id hX
  obtain ⟨M, S, yo, sv, hC⟩ := id hI
  obtain ⟨hS, hR2, ho, hd, hd2, hd3, hcp⟩ := id hC
  refine x_aload_n Z dL_law_1244 rfl rfl ?_
  refine x_aload_n Z dL_law_1245 rfl rfl ?_
  refine x_iload Z dL_law_1246 rfl ?_
  refine x_iconst Z dL_law_1248 ?_
  refine x_iadd Z dL_law_1249 ?_
  refine x_sld Z hX (by omega) (by omega) dL_law_1250 (fun hz1250 => ?_)
  refine x_aload_n Z dL_law_1251 rfl rfl ?_
  refine x_iload Z dL_law_1252 rfl ?_
  refine x_iconst Z dL_law_1254 ?_
  refine x_iadd Z dL_law_1255 ?_
  refine x_sld Z hX (by omega) (by omega) dL_law_1256 (fun hz1256 => ?_)
  refine x_aload_n Z dL_law_1257 rfl rfl ?_
  refine x_callSH Z okL_kinds q554 q555 dL_law_1258 (c_L_kinds h0 htr hS (by assumption) (by assumption) ho hd) ⟨Nat.le_of_ble_eq_true rfl, Nat.le_of_ble_eq_true rfl, (by show _ + 3 ≤ 755723; omega), (by show _ + 18 ≤ 6834312; omega)⟩ rfl rfl (Nat.le_of_ble_eq_true rfl) (fun v9 w9 hR => ?_)
  obtain ⟨z5, rfl, hcl⟩ := hR
  obtain ⟨y5, hC9, -, -⟩ := hC.sq hcl
  have hC := hC9
  obtain ⟨hSk, hS, ho, hd, hd2, hd3, hcp⟩ := id hC
  simp only [Option.toList_some, Option.toList_none, List.cons_append, List.nil_append]
  refine x_istore (L' := [(5, _), (4, _), (0, _), (1, _), (2, _), (3, _)]) Z dL_law_1261 (Nat.le_of_ble_eq_true rfl) rfl ?_
  refine x_aload_n Z dL_law_1263 rfl rfl ?_
  refine x_aload_n Z dL_law_1264 rfl rfl ?_
  refine x_iload Z dL_law_1265 rfl ?_
  refine x_iconst Z dL_law_1267 ?_
  refine x_iadd Z dL_law_1268 ?_
  refine x_sld Z hX (by omega) (by omega) dL_law_1269 (fun hz1269 => ?_)
  refine x_aload_n Z dL_law_1270 rfl rfl ?_
  refine x_iload Z dL_law_1271 rfl ?_
  refine x_iconst Z dL_law_1273 ?_
  refine x_iadd Z dL_law_1274 ?_
  refine x_sld Z hX (by omega) (by omega) dL_law_1275 (fun hz1275 => ?_)
  refine x_callV (ci := 5) (C := RX4) (T := TX4) (N := 7) Z okX4_kinds q1230 q1231 q1232 rfl dL_law_1276 (c_X4_kinds h0 htr hS (by assumption) (by assumption)) hS.1 ⟨Nat.le_of_ble_eq_true rfl, Nat.le_of_ble_eq_true rfl, (by show _ + 0 ≤ 755723; omega), (by show _ + 0 ≤ 6834312; omega)⟩ rfl rfl (Nat.le_of_ble_eq_true rfl) (fun v9 w9 hR => ?_)
  obtain ⟨z6, T6, rfl, hS6, hf6, -⟩ := hR
  have hI := hC.ref hS6 hf6
  simp only [Option.toList_some, Option.toList_none, List.cons_append, List.nil_append]
  refine x_istore (L' := [(6, _), (5, _), (4, _), (0, _), (1, _), (2, _), (3, _)]) Z dL_law_1279 (Nat.le_of_ble_eq_true rfl) rfl ?_
  refine x_goto Z 2244 dL_law_1281 (by decide) ?_
  refine x_sub [2, 3, 4, 5, 6] rfl ?_
  refine x_wd (k' := k + 400) (n' := n + 40000) (by omega) (by omega) ?_
  exact join2244 _ hI
set_option maxRecDepth 100000 in
theorem arm_23 {b : gBt} {l : Launch} {s0 : State} {G : gK} (h0 : gS0 s0) (htr : l.stackTraces = false) (Z : gAm b l s0 G cL_law RL 7 room_1) {sa Ls : Nat} {xs : Nat → Int32} (hX : lX b s0 sa Ls xs) {k n : Nat} {K : kA} {R : rA} {oc : Nat} {w : wd} {i : Int} (hI : lI G w K R oc) (hi0 : 0 ≤ i) (hi4 : i + 4 ≤ Ls) (hk : k + 400 ≤ 755723) (hn : n + 40000 ≤ 6834312) (join2244 : ∀ w2 : wd, lI G w2 K R oc → gX b s0 G (k + 400) (n + 40000) 2244 [(4, iv i), (0, rv sa), (1, rv K.1), (2, rv R.1), (3, rv oc)] [] w2) : gX b s0 G k n 1284 [(4, iv i), (0, rv sa), (1, rv K.1), (2, rv R.1), (3, rv oc)] [] w := by
  obtain ⟨-, -, -, hLs⟩ := id hX
  obtain ⟨M, S, yo, sv, hC⟩ := id hI
  obtain ⟨hS, hR2, ho, hd, hd2, hd3, hcp⟩ := id hC
  refine x_aload_n Z dL_law_1284 rfl rfl ?_
  refine x_aload_n Z dL_law_1285 rfl rfl ?_
  refine x_iload Z dL_law_1286 rfl ?_
  refine x_iconst Z dL_law_1288 ?_
  refine x_iadd Z dL_law_1289 ?_
  refine x_sld Z hX (by omega) (by omega) dL_law_1290 (fun hz1290 => ?_)
  refine x_aload_n Z dL_law_1291 rfl rfl ?_
  refine x_iload Z dL_law_1292 rfl ?_
  refine x_iconst Z dL_law_1294 ?_
  refine x_iadd Z dL_law_1295 ?_
  refine x_sld Z hX (by omega) (by omega) dL_law_1296 (fun hz1296 => ?_)
  refine x_aload_n Z dL_law_1297 rfl rfl ?_
  refine x_callSH Z okL_both q561 q562 dL_law_1298 (c_L_both h0 htr hS (by assumption) (by assumption) ho hd) ⟨Nat.le_of_ble_eq_true rfl, Nat.le_of_ble_eq_true rfl, (by show _ + 2 ≤ 755723; omega), (by show _ + 12 ≤ 6834312; omega)⟩ rfl rfl (Nat.le_of_ble_eq_true rfl) (fun v9 w9 hR => ?_)
  obtain ⟨z5, rfl, hcl⟩ := hR
  obtain ⟨y5, hC9, -, -⟩ := hC.sq hcl
  have hC := hC9
  obtain ⟨hSk, hS, ho, hd, hd2, hd3, hcp⟩ := id hC
  simp only [Option.toList_some, Option.toList_none, List.cons_append, List.nil_append]
  refine x_istore (L' := [(5, _), (4, _), (0, _), (1, _), (2, _), (3, _)]) Z dL_law_1301 (Nat.le_of_ble_eq_true rfl) rfl ?_
  refine x_aload_n Z dL_law_1303 rfl rfl ?_
  refine x_aload_n Z dL_law_1304 rfl rfl ?_
  refine x_iload Z dL_law_1305 rfl ?_
  refine x_iconst Z dL_law_1307 ?_
  refine x_iadd Z dL_law_1308 ?_
  refine x_sld Z hX (by omega) (by omega) dL_law_1309 (fun hz1309 => ?_)
  refine x_aload_n Z dL_law_1310 rfl rfl ?_
  refine x_iload Z dL_law_1311 rfl ?_
  refine x_iconst Z dL_law_1313 ?_
  refine x_iadd Z dL_law_1314 ?_
  refine x_sld Z hX (by omega) (by omega) dL_law_1315 (fun hz1315 => ?_)
  refine x_callV (ci := 5) (C := RX4) (T := TX4) (N := 7) Z okX4_both q1234 q1235 q1236 rfl dL_law_1316 (c_X4_both h0 htr hS (by assumption) (by assumption)) hS.1 ⟨Nat.le_of_ble_eq_true rfl, Nat.le_of_ble_eq_true rfl, (by show _ + 0 ≤ 755723; omega), (by show _ + 0 ≤ 6834312; omega)⟩ rfl rfl (Nat.le_of_ble_eq_true rfl) (fun v9 w9 hR => ?_)
  obtain ⟨z6, T6, rfl, hS6, hf6, -⟩ := hR
  have hI := hC.ref hS6 hf6
  simp only [Option.toList_some, Option.toList_none, List.cons_append, List.nil_append]
  refine x_istore (L' := [(6, _), (5, _), (4, _), (0, _), (1, _), (2, _), (3, _)]) Z dL_law_1319 (Nat.le_of_ble_eq_true rfl) rfl ?_
  refine x_goto Z 2244 dL_law_1321 (by decide) ?_
  refine x_sub [2, 3, 4, 5, 6] rfl ?_
  refine x_wd (k' := k + 400) (n' := n + 40000) (by omega) (by omega) ?_
  exact join2244 _ hI
set_option maxRecDepth 100000 in
theorem arm_24 {b : gBt} {l : Launch} {s0 : State} {G : gK} (h0 : gS0 s0) (htr : l.stackTraces = false) (Z : gAm b l s0 G cL_law RL 7 room_1) {sa Ls : Nat} {xs : Nat → Int32} (hX : lX b s0 sa Ls xs) {k n : Nat} {K : kA} {R : rA} {oc : Nat} {w : wd} {i : Int} (hI : lI G w K R oc) (hi0 : 0 ≤ i) (hi4 : i + 4 ≤ Ls) (hk : k + 400 ≤ 755723) (hn : n + 40000 ≤ 6834312) (join2244 : ∀ w2 : wd, lI G w2 K R oc → gX b s0 G (k + 400) (n + 40000) 2244 [(4, iv i), (0, rv sa), (1, rv K.1), (2, rv R.1), (3, rv oc)] [] w2) : gX b s0 G k n 1324 [(4, iv i), (0, rv sa), (1, rv K.1), (2, rv R.1), (3, rv oc)] [] w := by
  obtain ⟨-, -, -, hLs⟩ := id hX
  obtain ⟨M, S, yo, sv, hC⟩ := id hI
  obtain ⟨hS, hR2, ho, hd, hd2, hd3, hcp⟩ := id hC
  refine x_aload_n Z dL_law_1324 rfl rfl ?_
  refine x_aload_n Z dL_law_1325 rfl rfl ?_
  refine x_iload Z dL_law_1326 rfl ?_
  refine x_iconst Z dL_law_1328 ?_
  refine x_iadd Z dL_law_1329 ?_
  refine x_sld Z hX (by omega) (by omega) dL_law_1330 (fun hz1330 => ?_)
  refine x_aload_n Z dL_law_1331 rfl rfl ?_
  refine x_iload Z dL_law_1332 rfl ?_
  refine x_iconst Z dL_law_1334 ?_
  refine x_iadd Z dL_law_1335 ?_
  refine x_sld Z hX (by omega) (by omega) dL_law_1336 (fun hz1336 => ?_)
  refine x_aload_n Z dL_law_1337 rfl rfl ?_
  refine x_callSH Z okL_within q568 q569 dL_law_1338 (c_L_within h0 htr hS (by assumption) (by assumption) ho hd) ⟨Nat.le_of_ble_eq_true rfl, Nat.le_of_ble_eq_true rfl, (by show _ + 2 ≤ 755723; omega), (by show _ + 12 ≤ 6834312; omega)⟩ rfl rfl (Nat.le_of_ble_eq_true rfl) (fun v9 w9 hR => ?_)
  obtain ⟨z5, rfl, hcl⟩ := hR
  obtain ⟨y5, hC9, -, -⟩ := hC.sq hcl
  have hC := hC9
  obtain ⟨hSk, hS, ho, hd, hd2, hd3, hcp⟩ := id hC
  simp only [Option.toList_some, Option.toList_none, List.cons_append, List.nil_append]
  refine x_istore (L' := [(5, _), (4, _), (0, _), (1, _), (2, _), (3, _)]) Z dL_law_1341 (Nat.le_of_ble_eq_true rfl) rfl ?_
  refine x_aload_n Z dL_law_1343 rfl rfl ?_
  refine x_aload_n Z dL_law_1344 rfl rfl ?_
  refine x_iload Z dL_law_1345 rfl ?_
  refine x_iconst Z dL_law_1347 ?_
  refine x_iadd Z dL_law_1348 ?_
  refine x_sld Z hX (by omega) (by omega) dL_law_1349 (fun hz1349 => ?_)
  refine x_aload_n Z dL_law_1350 rfl rfl ?_
  refine x_iload Z dL_law_1351 rfl ?_
  refine x_iconst Z dL_law_1353 ?_
  refine x_iadd Z dL_law_1354 ?_
  refine x_sld Z hX (by omega) (by omega) dL_law_1355 (fun hz1355 => ?_)
  refine x_callV (ci := 5) (C := RX4) (T := TX4) (N := 7) Z okX4_within q1238 q1239 q1240 rfl dL_law_1356 (c_X4_within h0 htr hS (by assumption) (by assumption)) hS.1 ⟨Nat.le_of_ble_eq_true rfl, Nat.le_of_ble_eq_true rfl, (by show _ + 0 ≤ 755723; omega), (by show _ + 0 ≤ 6834312; omega)⟩ rfl rfl (Nat.le_of_ble_eq_true rfl) (fun v9 w9 hR => ?_)
  obtain ⟨z6, T6, rfl, hS6, hf6, -⟩ := hR
  have hI := hC.ref hS6 hf6
  simp only [Option.toList_some, Option.toList_none, List.cons_append, List.nil_append]
  refine x_istore (L' := [(6, _), (5, _), (4, _), (0, _), (1, _), (2, _), (3, _)]) Z dL_law_1359 (Nat.le_of_ble_eq_true rfl) rfl ?_
  refine x_goto Z 2244 dL_law_1361 (by decide) ?_
  refine x_sub [2, 3, 4, 5, 6] rfl ?_
  refine x_wd (k' := k + 400) (n' := n + 40000) (by omega) (by omega) ?_
  exact join2244 _ hI
set_option maxRecDepth 100000 in
theorem arm_25 {b : gBt} {l : Launch} {s0 : State} {G : gK} (h0 : gS0 s0) (htr : l.stackTraces = false) (Z : gAm b l s0 G cL_law RL 7 room_1) {sa Ls : Nat} {xs : Nat → Int32} (hX : lX b s0 sa Ls xs) {k n : Nat} {K : kA} {R : rA} {oc : Nat} {w : wd} {i : Int} (hI : lI G w K R oc) (hi0 : 0 ≤ i) (hi4 : i + 4 ≤ Ls) (hk : k + 400 ≤ 755723) (hn : n + 40000 ≤ 6834312) (join2244 : ∀ w2 : wd, lI G w2 K R oc → gX b s0 G (k + 400) (n + 40000) 2244 [(4, iv i), (0, rv sa), (1, rv K.1), (2, rv R.1), (3, rv oc)] [] w2) : gX b s0 G k n 1364 [(4, iv i), (0, rv sa), (1, rv K.1), (2, rv R.1), (3, rv oc)] [] w := by
  obtain ⟨-, -, -, hLs⟩ := id hX
  obtain ⟨M, S, yo, sv, hC⟩ := id hI
  obtain ⟨hS, hR2, ho, hd, hd2, hd3, hcp⟩ := id hC
  refine x_aload_n Z dL_law_1364 rfl rfl ?_
  refine x_aload_n Z dL_law_1365 rfl rfl ?_
  refine x_iload Z dL_law_1366 rfl ?_
  refine x_iconst Z dL_law_1368 ?_
  refine x_iadd Z dL_law_1369 ?_
  refine x_sld Z hX (by omega) (by omega) dL_law_1370 (fun hz1370 => ?_)
  refine x_aload_n Z dL_law_1371 rfl rfl ?_
  refine x_iload Z dL_law_1372 rfl ?_
  refine x_iconst Z dL_law_1374 ?_
  refine x_iadd Z dL_law_1375 ?_
  refine x_sld Z hX (by omega) (by omega) dL_law_1376 (fun hz1376 => ?_)
  refine x_aload_n Z dL_law_1377 rfl rfl ?_
  refine x_iload Z dL_law_1378 rfl ?_
  refine x_iconst Z dL_law_1380 ?_
  refine x_iadd Z dL_law_1381 ?_
  refine x_sld Z hX (by omega) (by omega) dL_law_1382 (fun hz1382 => ?_)
  refine x_aload_n Z dL_law_1383 rfl rfl ?_
  refine x_callSH Z okL_differ q575 q576 dL_law_1384 (c_L_differ h0 htr hS (by assumption) (by assumption) (by assumption) ho hd) ⟨Nat.le_of_ble_eq_true rfl, Nat.le_of_ble_eq_true rfl, (by show _ + 3 ≤ 755723; omega), (by show _ + 18 ≤ 6834312; omega)⟩ rfl rfl (Nat.le_of_ble_eq_true rfl) (fun v9 w9 hR => ?_)
  obtain ⟨z5, rfl, hcl⟩ := hR
  obtain ⟨y5, hC9, hz5, hy5⟩ := hC.sq hcl
  have hC := hC9
  obtain ⟨hSk, hS, ho, hd, hd2, hd3, hcp⟩ := id hC
  simp only [Option.toList_some, Option.toList_none, List.cons_append, List.nil_append]
  refine x_istore (L' := [(5, _), (4, _), (0, _), (1, _), (2, _), (3, _)]) Z dL_law_1387 (Nat.le_of_ble_eq_true rfl) rfl ?_
  refine x_aload_n Z dL_law_1389 rfl rfl ?_
  refine x_aload_n Z dL_law_1390 rfl rfl ?_
  refine x_iload Z dL_law_1391 rfl ?_
  refine x_iconst Z dL_law_1393 ?_
  refine x_iadd Z dL_law_1394 ?_
  refine x_sld Z hX (by omega) (by omega) dL_law_1395 (fun hz1395 => ?_)
  refine x_aload_n Z dL_law_1396 rfl rfl ?_
  refine x_iload Z dL_law_1397 rfl ?_
  refine x_iconst Z dL_law_1399 ?_
  refine x_iadd Z dL_law_1400 ?_
  refine x_sld Z hX (by omega) (by omega) dL_law_1401 (fun hz1401 => ?_)
  refine x_aload_n Z dL_law_1402 rfl rfl ?_
  refine x_iload Z dL_law_1403 rfl ?_
  refine x_iconst Z dL_law_1405 ?_
  refine x_iadd Z dL_law_1406 ?_
  refine x_sld Z hX (by omega) (by omega) dL_law_1407 (fun hz1407 => ?_)
  refine x_callV (ci := 5) (C := RX4) (T := TX4) (N := 7) Z okX4_differ q1242 q1243 q1244 rfl dL_law_1408 (c_X4_differ h0 htr hS (by assumption) (by assumption) (by assumption)) hS.1 ⟨Nat.le_of_ble_eq_true rfl, Nat.le_of_ble_eq_true rfl, (by show _ + 0 ≤ 755723; omega), (by show _ + 0 ≤ 6834312; omega)⟩ rfl rfl (Nat.le_of_ble_eq_true rfl) (fun v9 w9 hR => ?_)
  obtain ⟨z6, T6, rfl, hS6, hf6, hT6⟩ := hR
  obtain ⟨hz6, hv6⟩ := sq6 hT6
  have ho6 := hf6.at hd2 ho
  have hI := hC.ref hS6 hf6
  simp only [Option.toList_some, Option.toList_none, List.cons_append, List.nil_append]
  refine x_istore (L' := [(6, _), (5, _), (4, _), (0, _), (1, _), (2, _), (3, _)]) Z dL_law_1411 (Nat.le_of_ble_eq_true rfl) rfl ?_
  refine x_aload_n Z dL_law_1413 rfl rfl ?_
  refine x_callV (ci := 5) (C := RX4) (T := TX4) (N := 7) Z okX4_thrown q1063 q1064 q1065 rfl dL_law_1414 (c_X4_thrown h0 htr hS6) hS6.1 ⟨Nat.le_of_ble_eq_true rfl, Nat.le_of_ble_eq_true rfl, (by show _ + 0 ≤ 755723; omega), (by show _ + 0 ≤ 6834312; omega)⟩ rfl rfl (Nat.le_of_ble_eq_true rfl) (fun v9 w9 hR => ?_)
  obtain ⟨rfl, e9⟩ := hR
  refine x_ew e9 ?_
  simp only [Option.toList_some, Option.toList_none, List.cons_append, List.nil_append]
  refine x_tp (y := T6) rfl ?_
  refine x_iload Z dL_law_1417 rfl ?_
  refine x_icmp_eq Z 1424 dL_law_1419 (by decide) ⟨by omega, by omega⟩ ⟨by omega, by omega⟩ (fun c1419 => ?_) (fun c1419 => ?_)
  ·
    refine x_iload Z dL_law_1424 rfl ?_
    refine x_if_ne Z 1442 dL_law_1426 (by decide) ⟨by omega, by omega⟩ (fun c1426 => ?_) (fun c1426 => ?_)
    ·
      refine x_goto Z 2244 dL_law_1442 (by decide) ?_
      refine x_sub [2, 3, 4, 5, 6] rfl ?_
      refine x_wd (k' := k + 400) (n' := n + 40000) (by omega) (by omega) ?_
      exact join2244 _ hI
    ·
      refine x_aload_n Z dL_law_1429 rfl rfl ?_
      refine x_getfN (ci := 4) (j := 0) (C := RX3) (T := TX3) (N := 2) Z inX3g rfl (by decide) q297 rfl dL_law_1430 (by assumption) rfl ?_
      refine x_iload Z dL_law_1433 rfl ?_
      refine x_i2l Z dL_law_1435 ?_
      refine x_lcmpE Z dL_law_1436 (by first | (exfalso; omega) | rw [hy5 c1426, hv6 (by omega)]) ?_
      refine x_if_eq Z 1442 dL_law_1437 (by decide) ⟨by omega, by omega⟩ (fun c1437 => ?_) (fun c1437 => ?_)
      ·
        refine x_goto Z 2244 dL_law_1442 (by decide) ?_
        refine x_sub [2, 3, 4, 5, 6] rfl ?_
        refine x_wd (k' := k + 400) (n' := n + 40000) (by omega) (by omega) ?_
        exact join2244 _ hI
      · exact absurd c1437 (by omega)
  · exact absurd c1419 (by omega)
set_option maxRecDepth 100000 in
theorem arm_26 {b : gBt} {l : Launch} {s0 : State} {G : gK} (h0 : gS0 s0) (htr : l.stackTraces = false) (Z : gAm b l s0 G cL_law RL 7 room_1) {sa Ls : Nat} {xs : Nat → Int32} (hX : lX b s0 sa Ls xs) {k n : Nat} {K : kA} {R : rA} {oc : Nat} {w : wd} {i : Int} (hI : lI G w K R oc) (hi0 : 0 ≤ i) (hi4 : i + 4 ≤ Ls) (hk : k + 400 ≤ 755723) (hn : n + 40000 ≤ 6834312) (join2244 : ∀ w2 : wd, lI G w2 K R oc → gX b s0 G (k + 400) (n + 40000) 2244 [(4, iv i), (0, rv sa), (1, rv K.1), (2, rv R.1), (3, rv oc)] [] w2) : gX b s0 G k n 1445 [(4, iv i), (0, rv sa), (1, rv K.1), (2, rv R.1), (3, rv oc)] [] w := by
  obtain ⟨-, -, -, hLs⟩ := id hX
  obtain ⟨M, S, yo, sv, hC⟩ := id hI
  obtain ⟨hS, hR2, ho, hd, hd2, hd3, hcp⟩ := id hC
  refine x_aload_n Z dL_law_1445 rfl rfl ?_
  refine x_aload_n Z dL_law_1446 rfl rfl ?_
  refine x_iload Z dL_law_1447 rfl ?_
  refine x_iconst Z dL_law_1449 ?_
  refine x_iadd Z dL_law_1450 ?_
  refine x_sld Z hX (by omega) (by omega) dL_law_1451 (fun hz1451 => ?_)
  refine x_aload_n Z dL_law_1452 rfl rfl ?_
  refine x_callSH Z okL_length q582 q583 dL_law_1453 (c_L_length h0 htr hS (by assumption) ho hd) ⟨Nat.le_of_ble_eq_true rfl, Nat.le_of_ble_eq_true rfl, (by show _ + 1 ≤ 755723; omega), (by show _ + 6 ≤ 6834312; omega)⟩ rfl rfl (Nat.le_of_ble_eq_true rfl) (fun v9 w9 hR => ?_)
  obtain ⟨z5, rfl, hcl⟩ := hR
  obtain ⟨y5, hC9, hz5⟩ := hC.tq hcl
  have hC := hC9
  obtain ⟨hSk, hS, ho, hd, hd2, hd3, hcp⟩ := id hC
  simp only [Option.toList_some, Option.toList_none, List.cons_append, List.nil_append]
  refine x_istore (L' := [(5, _), (4, _), (0, _), (1, _), (2, _), (3, _)]) Z dL_law_1456 (Nat.le_of_ble_eq_true rfl) rfl ?_
  refine x_aload_n Z dL_law_1458 rfl rfl ?_
  refine x_aload_n Z dL_law_1459 rfl rfl ?_
  refine x_iload Z dL_law_1460 rfl ?_
  refine x_iconst Z dL_law_1462 ?_
  refine x_iadd Z dL_law_1463 ?_
  refine x_sld Z hX (by omega) (by omega) dL_law_1464 (fun hz1464 => ?_)
  refine x_callV (ci := 5) (C := RX4) (T := TX4) (N := 7) Z okX4_length q1246 q1247 q1248 rfl dL_law_1465 (c_X4_length h0 htr hS (by assumption)) hS.1 ⟨Nat.le_of_ble_eq_true rfl, Nat.le_of_ble_eq_true rfl, (by show _ + 0 ≤ 755723; omega), (by show _ + 0 ≤ 6834312; omega)⟩ rfl rfl (Nat.le_of_ble_eq_true rfl) (fun v9 w9 hR => ?_)
  obtain ⟨z6, T6, rfl, hS6, hf6, -⟩ := hR
  have hI := hC.ref hS6 hf6
  simp only [Option.toList_some, Option.toList_none, List.cons_append, List.nil_append]
  refine x_istore (L' := [(6, _), (5, _), (4, _), (0, _), (1, _), (2, _), (3, _)]) Z dL_law_1468 (Nat.le_of_ble_eq_true rfl) rfl ?_
  refine x_goto Z 2244 dL_law_1470 (by decide) ?_
  refine x_sub [2, 3, 4, 5, 6] rfl ?_
  refine x_wd (k' := k + 400) (n' := n + 40000) (by omega) (by omega) ?_
  exact join2244 _ hI
set_option maxRecDepth 100000 in
theorem arm_27 {b : gBt} {l : Launch} {s0 : State} {G : gK} (h0 : gS0 s0) (htr : l.stackTraces = false) (Z : gAm b l s0 G cL_law RL 7 room_1) {sa Ls : Nat} {xs : Nat → Int32} (hX : lX b s0 sa Ls xs) {k n : Nat} {K : kA} {R : rA} {oc : Nat} {w : wd} {i : Int} (hI : lI G w K R oc) (hi0 : 0 ≤ i) (hi4 : i + 4 ≤ Ls) (hk : k + 400 ≤ 755723) (hn : n + 40000 ≤ 6834312) (join2244 : ∀ w2 : wd, lI G w2 K R oc → gX b s0 G (k + 400) (n + 40000) 2244 [(4, iv i), (0, rv sa), (1, rv K.1), (2, rv R.1), (3, rv oc)] [] w2) : gX b s0 G k n 1473 [(4, iv i), (0, rv sa), (1, rv K.1), (2, rv R.1), (3, rv oc)] [] w := by
  obtain ⟨-, -, -, hLs⟩ := id hX
  obtain ⟨M, S, yo, sv, hC⟩ := id hI
  obtain ⟨hS, hR2, ho, hd, hd2, hd3, hcp⟩ := id hC
  refine x_aload_n Z dL_law_1473 rfl rfl ?_
  refine x_aload_n Z dL_law_1474 rfl rfl ?_
  refine x_iload Z dL_law_1475 rfl ?_
  refine x_iconst Z dL_law_1477 ?_
  refine x_iadd Z dL_law_1478 ?_
  refine x_sld Z hX (by omega) (by omega) dL_law_1479 (fun hz1479 => ?_)
  refine x_aload_n Z dL_law_1480 rfl rfl ?_
  refine x_iload Z dL_law_1481 rfl ?_
  refine x_iconst Z dL_law_1483 ?_
  refine x_iadd Z dL_law_1484 ?_
  refine x_sld Z hX (by omega) (by omega) dL_law_1485 (fun hz1485 => ?_)
  refine x_aload_n Z dL_law_1486 rfl rfl ?_
  refine x_callSH Z okL_sign q589 q590 dL_law_1487 (c_L_sign h0 htr hS (by assumption) (by assumption) ho hd) ⟨Nat.le_of_ble_eq_true rfl, Nat.le_of_ble_eq_true rfl, (by show _ + 2 ≤ 755723; omega), (by show _ + 12 ≤ 6834312; omega)⟩ rfl rfl (Nat.le_of_ble_eq_true rfl) (fun v9 w9 hR => ?_)
  obtain ⟨z5, rfl, hcl⟩ := hR
  obtain ⟨y5, hC9, hz5⟩ := hC.tq hcl
  have hC := hC9
  obtain ⟨hSk, hS, ho, hd, hd2, hd3, hcp⟩ := id hC
  simp only [Option.toList_some, Option.toList_none, List.cons_append, List.nil_append]
  refine x_istore (L' := [(5, _), (4, _), (0, _), (1, _), (2, _), (3, _)]) Z dL_law_1490 (Nat.le_of_ble_eq_true rfl) rfl ?_
  refine x_aload_n Z dL_law_1492 rfl rfl ?_
  refine x_aload_n Z dL_law_1493 rfl rfl ?_
  refine x_iload Z dL_law_1494 rfl ?_
  refine x_iconst Z dL_law_1496 ?_
  refine x_iadd Z dL_law_1497 ?_
  refine x_sld Z hX (by omega) (by omega) dL_law_1498 (fun hz1498 => ?_)
  refine x_aload_n Z dL_law_1499 rfl rfl ?_
  refine x_iload Z dL_law_1500 rfl ?_
  refine x_iconst Z dL_law_1502 ?_
  refine x_iadd Z dL_law_1503 ?_
  refine x_sld Z hX (by omega) (by omega) dL_law_1504 (fun hz1504 => ?_)
  refine x_callV (ci := 5) (C := RX4) (T := TX4) (N := 7) Z okX4_sign q1250 q1251 q1252 rfl dL_law_1505 (c_X4_sign h0 htr hS (by assumption) (by assumption)) hS.1 ⟨Nat.le_of_ble_eq_true rfl, Nat.le_of_ble_eq_true rfl, (by show _ + 0 ≤ 755723; omega), (by show _ + 0 ≤ 6834312; omega)⟩ rfl rfl (Nat.le_of_ble_eq_true rfl) (fun v9 w9 hR => ?_)
  obtain ⟨z6, T6, rfl, hS6, hf6, -⟩ := hR
  have hI := hC.ref hS6 hf6
  simp only [Option.toList_some, Option.toList_none, List.cons_append, List.nil_append]
  refine x_istore (L' := [(6, _), (5, _), (4, _), (0, _), (1, _), (2, _), (3, _)]) Z dL_law_1508 (Nat.le_of_ble_eq_true rfl) rfl ?_
  refine x_goto Z 2244 dL_law_1510 (by decide) ?_
  refine x_sub [2, 3, 4, 5, 6] rfl ?_
  refine x_wd (k' := k + 400) (n' := n + 40000) (by omega) (by omega) ?_
  exact join2244 _ hI
set_option maxRecDepth 100000 in
theorem arm_28 {b : gBt} {l : Launch} {s0 : State} {G : gK} (h0 : gS0 s0) (htr : l.stackTraces = false) (Z : gAm b l s0 G cL_law RL 7 room_1) {sa Ls : Nat} {xs : Nat → Int32} (hX : lX b s0 sa Ls xs) {k n : Nat} {K : kA} {R : rA} {oc : Nat} {w : wd} {i : Int} (hI : lI G w K R oc) (hi0 : 0 ≤ i) (hi4 : i + 4 ≤ Ls) (hk : k + 400 ≤ 755723) (hn : n + 40000 ≤ 6834312) (join2244 : ∀ w2 : wd, lI G w2 K R oc → gX b s0 G (k + 400) (n + 40000) 2244 [(4, iv i), (0, rv sa), (1, rv K.1), (2, rv R.1), (3, rv oc)] [] w2) : gX b s0 G k n 1513 [(4, iv i), (0, rv sa), (1, rv K.1), (2, rv R.1), (3, rv oc)] [] w := by
  obtain ⟨-, -, -, hLs⟩ := id hX
  obtain ⟨M, S, yo, sv, hC⟩ := id hI
  obtain ⟨hS, hR2, ho, hd, hd2, hd3, hcp⟩ := id hC
  refine x_aload_n Z dL_law_1513 rfl rfl ?_
  refine x_aload_n Z dL_law_1514 rfl rfl ?_
  refine x_iload Z dL_law_1515 rfl ?_
  refine x_iconst Z dL_law_1517 ?_
  refine x_iadd Z dL_law_1518 ?_
  refine x_sld Z hX (by omega) (by omega) dL_law_1519 (fun hz1519 => ?_)
  refine x_aload_n Z dL_law_1520 rfl rfl ?_
  refine x_callSH Z okL_signs q596 q597 dL_law_1521 (c_L_signs h0 htr hS (by assumption) ho hd) ⟨Nat.le_of_ble_eq_true rfl, Nat.le_of_ble_eq_true rfl, (by show _ + 126 ≤ 755723; omega), (by show _ + 16496 ≤ 6834312; omega)⟩ rfl rfl (Nat.le_of_ble_eq_true rfl) (fun v9 w9 hR => ?_)
  obtain ⟨⟨z5, rfl⟩, hW⟩ := hR
  obtain ⟨y5, sv5, hC9⟩ := hC.cls hW
  have hC := hC9
  obtain ⟨hSk, hS, ho, hd, hd2, hd3, hcp⟩ := id hC
  simp only [Option.toList_some, Option.toList_none, List.cons_append, List.nil_append]
  refine x_istore (L' := [(5, _), (4, _), (0, _), (1, _), (2, _), (3, _)]) Z dL_law_1524 (Nat.le_of_ble_eq_true rfl) rfl ?_
  refine x_aload_n Z dL_law_1526 rfl rfl ?_
  refine x_aload_n Z dL_law_1527 rfl rfl ?_
  refine x_iload Z dL_law_1528 rfl ?_
  refine x_iconst Z dL_law_1530 ?_
  refine x_iadd Z dL_law_1531 ?_
  refine x_sld Z hX (by omega) (by omega) dL_law_1532 (fun hz1532 => ?_)
  refine x_callV (ci := 5) (C := RX4) (T := TX4) (N := 7) Z okX4_signs q1254 q1255 q1256 rfl dL_law_1533 (c_X4_signs h0 htr hS (by assumption)) hS.1 ⟨Nat.le_of_ble_eq_true rfl, Nat.le_of_ble_eq_true rfl, (by show _ + 126 ≤ 755723; omega), (by show _ + 16496 ≤ 6834312; omega)⟩ rfl rfl (Nat.le_of_ble_eq_true rfl) (fun v9 w9 hR => ?_)
  obtain ⟨⟨z6, rfl⟩, T6, hS6, hf6⟩ := hR
  have hI := hC.ref hS6 hf6
  simp only [Option.toList_some, Option.toList_none, List.cons_append, List.nil_append]
  refine x_astore (L' := [(6, _), (5, _), (4, _), (0, _), (1, _), (2, _), (3, _)]) Z dL_law_1536 (Nat.le_of_ble_eq_true rfl) rfl ?_
  refine x_goto Z 2244 dL_law_1538 (by decide) ?_
  refine x_sub [2, 3, 4, 5, 6] rfl ?_
  refine x_wd (k' := k + 400) (n' := n + 40000) (by omega) (by omega) ?_
  exact join2244 _ hI
set_option maxRecDepth 100000 in
theorem arm_29 {b : gBt} {l : Launch} {s0 : State} {G : gK} (h0 : gS0 s0) (htr : l.stackTraces = false) (Z : gAm b l s0 G cL_law RL 7 room_1) {sa Ls : Nat} {xs : Nat → Int32} (hX : lX b s0 sa Ls xs) {k n : Nat} {K : kA} {R : rA} {oc : Nat} {w : wd} {i : Int} (hI : lI G w K R oc) (hi0 : 0 ≤ i) (hi4 : i + 4 ≤ Ls) (hk : k + 400 ≤ 755723) (hn : n + 40000 ≤ 6834312) (join2244 : ∀ w2 : wd, lI G w2 K R oc → gX b s0 G (k + 400) (n + 40000) 2244 [(4, iv i), (0, rv sa), (1, rv K.1), (2, rv R.1), (3, rv oc)] [] w2) : gX b s0 G k n 1541 [(4, iv i), (0, rv sa), (1, rv K.1), (2, rv R.1), (3, rv oc)] [] w := by
  obtain ⟨-, -, -, hLs⟩ := id hX
  obtain ⟨M, S, yo, sv, hC⟩ := id hI
  obtain ⟨hS, hR2, ho, hd, hd2, hd3, hcp⟩ := id hC
  refine x_aload_n Z dL_law_1541 rfl rfl ?_
  refine x_aload_n Z dL_law_1542 rfl rfl ?_
  refine x_iload Z dL_law_1543 rfl ?_
  refine x_iconst Z dL_law_1545 ?_
  refine x_iadd Z dL_law_1546 ?_
  refine x_sld Z hX (by omega) (by omega) dL_law_1547 (fun hz1547 => ?_)
  refine x_aload_n Z dL_law_1548 rfl rfl ?_
  refine x_callSH Z okL_kindsOf q880 q881 dL_law_1549 (c_L_kindsOf h0 htr hS (by assumption) ho hd) ⟨Nat.le_of_ble_eq_true rfl, Nat.le_of_ble_eq_true rfl, (by show _ + 126 ≤ 755723; omega), (by show _ + 16496 ≤ 6834312; omega)⟩ rfl rfl (Nat.le_of_ble_eq_true rfl) (fun v9 w9 hR => ?_)
  obtain ⟨⟨z5, rfl⟩, hW⟩ := hR
  obtain ⟨y5, sv5, hC9⟩ := hC.cls hW
  have hC := hC9
  obtain ⟨hSk, hS, ho, hd, hd2, hd3, hcp⟩ := id hC
  simp only [Option.toList_some, Option.toList_none, List.cons_append, List.nil_append]
  refine x_istore (L' := [(5, _), (4, _), (0, _), (1, _), (2, _), (3, _)]) Z dL_law_1552 (Nat.le_of_ble_eq_true rfl) rfl ?_
  refine x_aload_n Z dL_law_1554 rfl rfl ?_
  refine x_aload_n Z dL_law_1555 rfl rfl ?_
  refine x_iload Z dL_law_1556 rfl ?_
  refine x_iconst Z dL_law_1558 ?_
  refine x_iadd Z dL_law_1559 ?_
  refine x_sld Z hX (by omega) (by omega) dL_law_1560 (fun hz1560 => ?_)
  refine x_callV (ci := 5) (C := RX4) (T := TX4) (N := 7) Z okX4_kindsOf q1269 q1270 q1271 rfl dL_law_1561 (c_X4_kindsOf h0 htr hS (by assumption)) hS.1 ⟨Nat.le_of_ble_eq_true rfl, Nat.le_of_ble_eq_true rfl, (by show _ + 126 ≤ 755723; omega), (by show _ + 16496 ≤ 6834312; omega)⟩ rfl rfl (Nat.le_of_ble_eq_true rfl) (fun v9 w9 hR => ?_)
  obtain ⟨⟨z6, rfl⟩, T6, hS6, hf6⟩ := hR
  have hI := hC.ref hS6 hf6
  simp only [Option.toList_some, Option.toList_none, List.cons_append, List.nil_append]
  refine x_astore (L' := [(6, _), (5, _), (4, _), (0, _), (1, _), (2, _), (3, _)]) Z dL_law_1564 (Nat.le_of_ble_eq_true rfl) rfl ?_
  refine x_goto Z 2244 dL_law_1566 (by decide) ?_
  refine x_sub [2, 3, 4, 5, 6] rfl ?_
  refine x_wd (k' := k + 400) (n' := n + 40000) (by omega) (by omega) ?_
  exact join2244 _ hI
set_option maxRecDepth 100000 in
theorem arm_30 {b : gBt} {l : Launch} {s0 : State} {G : gK} (h0 : gS0 s0) (htr : l.stackTraces = false) (Z : gAm b l s0 G cL_law RL 7 room_1) {sa Ls : Nat} {xs : Nat → Int32} (hX : lX b s0 sa Ls xs) {k n : Nat} {K : kA} {R : rA} {oc : Nat} {w : wd} {i : Int} (hI : lI G w K R oc) (hi0 : 0 ≤ i) (hi4 : i + 4 ≤ Ls) (hk : k + 400 ≤ 755723) (hn : n + 40000 ≤ 6834312) (join2244 : ∀ w2 : wd, lI G w2 K R oc → gX b s0 G (k + 400) (n + 40000) 2244 [(4, iv i), (0, rv sa), (1, rv K.1), (2, rv R.1), (3, rv oc)] [] w2) : gX b s0 G k n 1569 [(4, iv i), (0, rv sa), (1, rv K.1), (2, rv R.1), (3, rv oc)] [] w := by
  obtain ⟨-, -, -, hLs⟩ := id hX
  obtain ⟨M, S, yo, sv, hC⟩ := id hI
  obtain ⟨hS, hR2, ho, hd, hd2, hd3, hcp⟩ := id hC
  refine x_aload_n Z dL_law_1569 rfl rfl ?_
  refine x_aload_n Z dL_law_1570 rfl rfl ?_
  refine x_iload Z dL_law_1571 rfl ?_
  refine x_iconst Z dL_law_1573 ?_
  refine x_iadd Z dL_law_1574 ?_
  refine x_sld Z hX (by omega) (by omega) dL_law_1575 (fun hz1575 => ?_)
  refine x_aload_n Z dL_law_1576 rfl rfl ?_
  refine x_iload Z dL_law_1577 rfl ?_
  refine x_iconst Z dL_law_1579 ?_
  refine x_iadd Z dL_law_1580 ?_
  refine x_sld Z hX (by omega) (by omega) dL_law_1581 (fun hz1581 => ?_)
  refine x_aload_n Z dL_law_1582 rfl rfl ?_
  refine x_callSH Z okL_count q888 q889 dL_law_1583 (c_L_count h0 htr hS (by assumption) (by assumption) ho hd) ⟨Nat.le_of_ble_eq_true rfl, Nat.le_of_ble_eq_true rfl, (by show _ + 2 ≤ 755723; omega), (by show _ + 12 ≤ 6834312; omega)⟩ rfl rfl (Nat.le_of_ble_eq_true rfl) (fun v9 w9 hR => ?_)
  obtain ⟨z5, rfl, hcl⟩ := hR
  obtain ⟨y5, hC9, hz5⟩ := hC.tq hcl
  have hC := hC9
  obtain ⟨hSk, hS, ho, hd, hd2, hd3, hcp⟩ := id hC
  simp only [Option.toList_some, Option.toList_none, List.cons_append, List.nil_append]
  refine x_istore (L' := [(5, _), (4, _), (0, _), (1, _), (2, _), (3, _)]) Z dL_law_1586 (Nat.le_of_ble_eq_true rfl) rfl ?_
  refine x_aload_n Z dL_law_1588 rfl rfl ?_
  refine x_aload_n Z dL_law_1589 rfl rfl ?_
  refine x_iload Z dL_law_1590 rfl ?_
  refine x_iconst Z dL_law_1592 ?_
  refine x_iadd Z dL_law_1593 ?_
  refine x_sld Z hX (by omega) (by omega) dL_law_1594 (fun hz1594 => ?_)
  refine x_aload_n Z dL_law_1595 rfl rfl ?_
  refine x_iload Z dL_law_1596 rfl ?_
  refine x_iconst Z dL_law_1598 ?_
  refine x_iadd Z dL_law_1599 ?_
  refine x_sld Z hX (by omega) (by omega) dL_law_1600 (fun hz1600 => ?_)
  refine x_callV (ci := 5) (C := RX4) (T := TX4) (N := 7) Z okX4_count q1273 q1274 q1275 rfl dL_law_1601 (c_X4_count h0 htr hS (by assumption) (by assumption)) hS.1 ⟨Nat.le_of_ble_eq_true rfl, Nat.le_of_ble_eq_true rfl, (by show _ + 0 ≤ 755723; omega), (by show _ + 0 ≤ 6834312; omega)⟩ rfl rfl (Nat.le_of_ble_eq_true rfl) (fun v9 w9 hR => ?_)
  obtain ⟨z6, T6, rfl, hS6, hf6, -⟩ := hR
  have hI := hC.ref hS6 hf6
  simp only [Option.toList_some, Option.toList_none, List.cons_append, List.nil_append]
  refine x_istore (L' := [(6, _), (5, _), (4, _), (0, _), (1, _), (2, _), (3, _)]) Z dL_law_1604 (Nat.le_of_ble_eq_true rfl) rfl ?_
  refine x_goto Z 2244 dL_law_1606 (by decide) ?_
  refine x_sub [2, 3, 4, 5, 6] rfl ?_
  refine x_wd (k' := k + 400) (n' := n + 40000) (by omega) (by omega) ?_
  exact join2244 _ hI
set_option maxRecDepth 100000 in
theorem arm_31 {b : gBt} {l : Launch} {s0 : State} {G : gK} (h0 : gS0 s0) (htr : l.stackTraces = false) (Z : gAm b l s0 G cL_law RL 7 room_1) {sa Ls : Nat} {xs : Nat → Int32} (hX : lX b s0 sa Ls xs) {k n : Nat} {K : kA} {R : rA} {oc : Nat} {w : wd} {i : Int} (hI : lI G w K R oc) (hi0 : 0 ≤ i) (hi4 : i + 4 ≤ Ls) (hk : k + 400 ≤ 755723) (hn : n + 40000 ≤ 6834312) (join2244 : ∀ w2 : wd, lI G w2 K R oc → gX b s0 G (k + 400) (n + 40000) 2244 [(4, iv i), (0, rv sa), (1, rv K.1), (2, rv R.1), (3, rv oc)] [] w2) : gX b s0 G k n 1609 [(4, iv i), (0, rv sa), (1, rv K.1), (2, rv R.1), (3, rv oc)] [] w := by
  obtain ⟨-, -, -, hLs⟩ := id hX
  obtain ⟨M, S, yo, sv, hC⟩ := id hI
  obtain ⟨hS, hR2, ho, hd, hd2, hd3, hcp⟩ := id hC
  refine x_aload_n Z dL_law_1609 rfl rfl ?_
  refine x_aload_n Z dL_law_1610 rfl rfl ?_
  refine x_iload Z dL_law_1611 rfl ?_
  refine x_iconst Z dL_law_1613 ?_
  refine x_iadd Z dL_law_1614 ?_
  refine x_sld Z hX (by omega) (by omega) dL_law_1615 (fun hz1615 => ?_)
  refine x_aload_n Z dL_law_1616 rfl rfl ?_
  refine x_iload Z dL_law_1617 rfl ?_
  refine x_iconst Z dL_law_1619 ?_
  refine x_iadd Z dL_law_1620 ?_
  refine x_sld Z hX (by omega) (by omega) dL_law_1621 (fun hz1621 => ?_)
  refine x_aload_n Z dL_law_1622 rfl rfl ?_
  refine x_callSH Z okL_countKind q896 q897 dL_law_1623 (c_L_countKind h0 htr hS (by assumption) (by assumption) ho hd) ⟨Nat.le_of_ble_eq_true rfl, Nat.le_of_ble_eq_true rfl, (by show _ + 2 ≤ 755723; omega), (by show _ + 12 ≤ 6834312; omega)⟩ rfl rfl (Nat.le_of_ble_eq_true rfl) (fun v9 w9 hR => ?_)
  obtain ⟨z5, rfl, hcl⟩ := hR
  obtain ⟨y5, hC9, hz5⟩ := hC.tq hcl
  have hC := hC9
  obtain ⟨hSk, hS, ho, hd, hd2, hd3, hcp⟩ := id hC
  simp only [Option.toList_some, Option.toList_none, List.cons_append, List.nil_append]
  refine x_istore (L' := [(5, _), (4, _), (0, _), (1, _), (2, _), (3, _)]) Z dL_law_1626 (Nat.le_of_ble_eq_true rfl) rfl ?_
  refine x_aload_n Z dL_law_1628 rfl rfl ?_
  refine x_aload_n Z dL_law_1629 rfl rfl ?_
  refine x_iload Z dL_law_1630 rfl ?_
  refine x_iconst Z dL_law_1632 ?_
  refine x_iadd Z dL_law_1633 ?_
  refine x_sld Z hX (by omega) (by omega) dL_law_1634 (fun hz1634 => ?_)
  refine x_aload_n Z dL_law_1635 rfl rfl ?_
  refine x_iload Z dL_law_1636 rfl ?_
  refine x_iconst Z dL_law_1638 ?_
  refine x_iadd Z dL_law_1639 ?_
  refine x_sld Z hX (by omega) (by omega) dL_law_1640 (fun hz1640 => ?_)
  refine x_callV (ci := 5) (C := RX4) (T := TX4) (N := 7) Z okX4_countKind q1281 q1282 q1283 rfl dL_law_1641 (c_X4_countKind h0 htr hS (by assumption) (by assumption)) hS.1 ⟨Nat.le_of_ble_eq_true rfl, Nat.le_of_ble_eq_true rfl, (by show _ + 0 ≤ 755723; omega), (by show _ + 0 ≤ 6834312; omega)⟩ rfl rfl (Nat.le_of_ble_eq_true rfl) (fun v9 w9 hR => ?_)
  obtain ⟨z6, T6, rfl, hS6, hf6, -⟩ := hR
  have hI := hC.ref hS6 hf6
  simp only [Option.toList_some, Option.toList_none, List.cons_append, List.nil_append]
  refine x_istore (L' := [(6, _), (5, _), (4, _), (0, _), (1, _), (2, _), (3, _)]) Z dL_law_1644 (Nat.le_of_ble_eq_true rfl) rfl ?_
  refine x_goto Z 2244 dL_law_1646 (by decide) ?_
  refine x_sub [2, 3, 4, 5, 6] rfl ?_
  refine x_wd (k' := k + 400) (n' := n + 40000) (by omega) (by omega) ?_
  exact join2244 _ hI
set_option maxRecDepth 100000 in
theorem arm_32 {b : gBt} {l : Launch} {s0 : State} {G : gK} (h0 : gS0 s0) (htr : l.stackTraces = false) (Z : gAm b l s0 G cL_law RL 7 room_1) {sa Ls : Nat} {xs : Nat → Int32} (hX : lX b s0 sa Ls xs) {k n : Nat} {K : kA} {R : rA} {oc : Nat} {w : wd} {i : Int} (hI : lI G w K R oc) (hi0 : 0 ≤ i) (hi4 : i + 4 ≤ Ls) (hk : k + 400 ≤ 755723) (hn : n + 40000 ≤ 6834312) (join2244 : ∀ w2 : wd, lI G w2 K R oc → gX b s0 G (k + 400) (n + 40000) 2244 [(4, iv i), (0, rv sa), (1, rv K.1), (2, rv R.1), (3, rv oc)] [] w2) : gX b s0 G k n 1649 [(4, iv i), (0, rv sa), (1, rv K.1), (2, rv R.1), (3, rv oc)] [] w := by
  obtain ⟨-, -, -, hLs⟩ := id hX
  obtain ⟨M, S, yo, sv, hC⟩ := id hI
  obtain ⟨hS, hR2, ho, hd, hd2, hd3, hcp⟩ := id hC
  refine x_aload_n Z dL_law_1649 rfl rfl ?_
  refine x_aload_n Z dL_law_1650 rfl rfl ?_
  refine x_iload Z dL_law_1651 rfl ?_
  refine x_iconst Z dL_law_1653 ?_
  refine x_iadd Z dL_law_1654 ?_
  refine x_sld Z hX (by omega) (by omega) dL_law_1655 (fun hz1655 => ?_)
  refine x_aload_n Z dL_law_1656 rfl rfl ?_
  refine x_iload Z dL_law_1657 rfl ?_
  refine x_iconst Z dL_law_1659 ?_
  refine x_iadd Z dL_law_1660 ?_
  refine x_sld Z hX (by omega) (by omega) dL_law_1661 (fun hz1661 => ?_)
  refine x_aload_n Z dL_law_1662 rfl rfl ?_
  refine x_callSH Z okL_isAll q903 q904 dL_law_1663 (c_L_isAll h0 htr hS (by assumption) (by assumption) ho hd) ⟨Nat.le_of_ble_eq_true rfl, Nat.le_of_ble_eq_true rfl, (by show _ + 2 ≤ 755723; omega), (by show _ + 12 ≤ 6834312; omega)⟩ rfl rfl (Nat.le_of_ble_eq_true rfl) (fun v9 w9 hR => ?_)
  obtain ⟨z5, rfl, hcl⟩ := hR
  obtain ⟨y5, hC9, hz5⟩ := hC.tq hcl
  have hC := hC9
  obtain ⟨hSk, hS, ho, hd, hd2, hd3, hcp⟩ := id hC
  simp only [Option.toList_some, Option.toList_none, List.cons_append, List.nil_append]
  refine x_istore (L' := [(5, _), (4, _), (0, _), (1, _), (2, _), (3, _)]) Z dL_law_1666 (Nat.le_of_ble_eq_true rfl) rfl ?_
  refine x_aload_n Z dL_law_1668 rfl rfl ?_
  refine x_aload_n Z dL_law_1669 rfl rfl ?_
  refine x_iload Z dL_law_1670 rfl ?_
  refine x_iconst Z dL_law_1672 ?_
  refine x_iadd Z dL_law_1673 ?_
  refine x_sld Z hX (by omega) (by omega) dL_law_1674 (fun hz1674 => ?_)
  refine x_aload_n Z dL_law_1675 rfl rfl ?_
  refine x_iload Z dL_law_1676 rfl ?_
  refine x_iconst Z dL_law_1678 ?_
  refine x_iadd Z dL_law_1679 ?_
  refine x_sld Z hX (by omega) (by omega) dL_law_1680 (fun hz1680 => ?_)
  refine x_callV (ci := 5) (C := RX4) (T := TX4) (N := 7) Z okX4_isAll q1285 q1286 q1287 rfl dL_law_1681 (c_X4_isAll h0 htr hS (by assumption) (by assumption)) hS.1 ⟨Nat.le_of_ble_eq_true rfl, Nat.le_of_ble_eq_true rfl, (by show _ + 0 ≤ 755723; omega), (by show _ + 0 ≤ 6834312; omega)⟩ rfl rfl (Nat.le_of_ble_eq_true rfl) (fun v9 w9 hR => ?_)
  obtain ⟨z6, T6, rfl, hS6, hf6, -⟩ := hR
  have hI := hC.ref hS6 hf6
  simp only [Option.toList_some, Option.toList_none, List.cons_append, List.nil_append]
  refine x_istore (L' := [(6, _), (5, _), (4, _), (0, _), (1, _), (2, _), (3, _)]) Z dL_law_1684 (Nat.le_of_ble_eq_true rfl) rfl ?_
  refine x_goto Z 2244 dL_law_1686 (by decide) ?_
  refine x_sub [2, 3, 4, 5, 6] rfl ?_
  refine x_wd (k' := k + 400) (n' := n + 40000) (by omega) (by omega) ?_
  exact join2244 _ hI
set_option maxRecDepth 100000 in
theorem arm_33 {b : gBt} {l : Launch} {s0 : State} {G : gK} (h0 : gS0 s0) (htr : l.stackTraces = false) (Z : gAm b l s0 G cL_law RL 7 room_1) {sa Ls : Nat} {xs : Nat → Int32} (hX : lX b s0 sa Ls xs) {k n : Nat} {K : kA} {R : rA} {oc : Nat} {w : wd} {i : Int} (hI : lI G w K R oc) (hi0 : 0 ≤ i) (hi4 : i + 4 ≤ Ls) (hk : k + 400 ≤ 755723) (hn : n + 40000 ≤ 6834312) (join2244 : ∀ w2 : wd, lI G w2 K R oc → gX b s0 G (k + 400) (n + 40000) 2244 [(4, iv i), (0, rv sa), (1, rv K.1), (2, rv R.1), (3, rv oc)] [] w2) : gX b s0 G k n 1689 [(4, iv i), (0, rv sa), (1, rv K.1), (2, rv R.1), (3, rv oc)] [] w := by
  obtain ⟨-, -, -, hLs⟩ := id hX
  obtain ⟨M, S, yo, sv, hC⟩ := id hI
  obtain ⟨hS, hR2, ho, hd, hd2, hd3, hcp⟩ := id hC
  refine x_aload_n Z dL_law_1689 rfl rfl ?_
  refine x_aload_n Z dL_law_1690 rfl rfl ?_
  refine x_iload Z dL_law_1691 rfl ?_
  refine x_iconst Z dL_law_1693 ?_
  refine x_iadd Z dL_law_1694 ?_
  refine x_sld Z hX (by omega) (by omega) dL_law_1695 (fun hz1695 => ?_)
  refine x_aload_n Z dL_law_1696 rfl rfl ?_
  refine x_iload Z dL_law_1697 rfl ?_
  refine x_iconst Z dL_law_1699 ?_
  refine x_iadd Z dL_law_1700 ?_
  refine x_sld Z hX (by omega) (by omega) dL_law_1701 (fun hz1701 => ?_)
  refine x_aload_n Z dL_law_1702 rfl rfl ?_
  refine x_iload Z dL_law_1703 rfl ?_
  refine x_iconst Z dL_law_1705 ?_
  refine x_iadd Z dL_law_1706 ?_
  refine x_sld Z hX (by omega) (by omega) dL_law_1707 (fun hz1707 => ?_)
  refine x_if_eq Z 1715 dL_law_1708 (by decide) ⟨by omega, by omega⟩ (fun c1708 => ?_) (fun c1708 => ?_)
  ·
    refine x_ib false Z dL_law_1715 (by decide) ?_
    refine x_aload_n Z dL_law_1716 rfl rfl ?_
    refine x_callSH Z okL_first q910 q911 dL_law_1717 (c_L_first h0 htr hS (by assumption) (by assumption) ho hd) ⟨Nat.le_of_ble_eq_true rfl, Nat.le_of_ble_eq_true rfl, (by show _ + 2 ≤ 755723; omega), (by show _ + 12 ≤ 6834312; omega)⟩ rfl rfl (Nat.le_of_ble_eq_true rfl) (fun v9 w9 hR => ?_)
    obtain ⟨z5, rfl, hcl⟩ := hR
    obtain ⟨y5, hC9, hz5⟩ := hC.tq hcl
    have hC := hC9
    obtain ⟨hSk, hS, ho, hd, hd2, hd3, hcp⟩ := id hC
    simp only [Option.toList_some, Option.toList_none, List.cons_append, List.nil_append]
    refine x_istore (L' := [(5, _), (4, _), (0, _), (1, _), (2, _), (3, _)]) Z dL_law_1720 (Nat.le_of_ble_eq_true rfl) rfl ?_
    refine x_aload_n Z dL_law_1722 rfl rfl ?_
    refine x_aload_n Z dL_law_1723 rfl rfl ?_
    refine x_iload Z dL_law_1724 rfl ?_
    refine x_iconst Z dL_law_1726 ?_
    refine x_iadd Z dL_law_1727 ?_
    refine x_sld Z hX (by omega) (by omega) dL_law_1728 (fun hz1728 => ?_)
    refine x_aload_n Z dL_law_1729 rfl rfl ?_
    refine x_iload Z dL_law_1730 rfl ?_
    refine x_iconst Z dL_law_1732 ?_
    refine x_iadd Z dL_law_1733 ?_
    refine x_sld Z hX (by omega) (by omega) dL_law_1734 (fun hz1734 => ?_)
    refine x_aload_n Z dL_law_1735 rfl rfl ?_
    refine x_iload Z dL_law_1736 rfl ?_
    refine x_iconst Z dL_law_1738 ?_
    refine x_iadd Z dL_law_1739 ?_
    refine x_sld Z hX (by omega) (by omega) dL_law_1740 (fun hz1740 => ?_)
    refine x_if_eq Z 1748 dL_law_1741 (by decide) ⟨by omega, by omega⟩ (fun c1741 => ?_) (fun c1741 => ?_)
    ·
      refine x_ib false Z dL_law_1748 (by decide) ?_
      refine x_callV (ci := 5) (C := RX4) (T := TX4) (N := 7) Z okX4_first q1289 q1290 q1291 rfl dL_law_1749 (c_X4_first h0 htr hS (by assumption) (by assumption)) hS.1 ⟨Nat.le_of_ble_eq_true rfl, Nat.le_of_ble_eq_true rfl, (by show _ + 0 ≤ 755723; omega), (by show _ + 0 ≤ 6834312; omega)⟩ rfl rfl (Nat.le_of_ble_eq_true rfl) (fun v9 w9 hR => ?_)
      obtain ⟨z6, T6, rfl, hS6, hf6, -⟩ := hR
      have hI := hC.ref hS6 hf6
      simp only [Option.toList_some, Option.toList_none, List.cons_append, List.nil_append]
      refine x_istore (L' := [(6, _), (5, _), (4, _), (0, _), (1, _), (2, _), (3, _)]) Z dL_law_1752 (Nat.le_of_ble_eq_true rfl) rfl ?_
      refine x_goto Z 2244 dL_law_1754 (by decide) ?_
      refine x_sub [2, 3, 4, 5, 6] rfl ?_
      refine x_wd (k' := k + 400) (n' := n + 40000) (by omega) (by omega) ?_
      exact join2244 _ hI
    ·
      refine x_ib true Z dL_law_1744 (by decide) ?_
      refine x_goto Z 1749 dL_law_1745 (by decide) ?_
      refine x_callV (ci := 5) (C := RX4) (T := TX4) (N := 7) Z okX4_first q1289 q1290 q1291 rfl dL_law_1749 (c_X4_first h0 htr hS (by assumption) (by assumption)) hS.1 ⟨Nat.le_of_ble_eq_true rfl, Nat.le_of_ble_eq_true rfl, (by show _ + 0 ≤ 755723; omega), (by show _ + 0 ≤ 6834312; omega)⟩ rfl rfl (Nat.le_of_ble_eq_true rfl) (fun v9 w9 hR => ?_)
      obtain ⟨z6, T6, rfl, hS6, hf6, -⟩ := hR
      have hI := hC.ref hS6 hf6
      simp only [Option.toList_some, Option.toList_none, List.cons_append, List.nil_append]
      refine x_istore (L' := [(6, _), (5, _), (4, _), (0, _), (1, _), (2, _), (3, _)]) Z dL_law_1752 (Nat.le_of_ble_eq_true rfl) rfl ?_
      refine x_goto Z 2244 dL_law_1754 (by decide) ?_
      refine x_sub [2, 3, 4, 5, 6] rfl ?_
      refine x_wd (k' := k + 400) (n' := n + 40000) (by omega) (by omega) ?_
      exact join2244 _ hI
  ·
    refine x_ib true Z dL_law_1711 (by decide) ?_
    refine x_goto Z 1716 dL_law_1712 (by decide) ?_
    refine x_aload_n Z dL_law_1716 rfl rfl ?_
    refine x_callSH Z okL_first q910 q911 dL_law_1717 (c_L_first h0 htr hS (by assumption) (by assumption) ho hd) ⟨Nat.le_of_ble_eq_true rfl, Nat.le_of_ble_eq_true rfl, (by show _ + 2 ≤ 755723; omega), (by show _ + 12 ≤ 6834312; omega)⟩ rfl rfl (Nat.le_of_ble_eq_true rfl) (fun v9 w9 hR => ?_)
    obtain ⟨z5, rfl, hcl⟩ := hR
    obtain ⟨y5, hC9, hz5⟩ := hC.tq hcl
    have hC := hC9
    obtain ⟨hSk, hS, ho, hd, hd2, hd3, hcp⟩ := id hC
    simp only [Option.toList_some, Option.toList_none, List.cons_append, List.nil_append]
    refine x_istore (L' := [(5, _), (4, _), (0, _), (1, _), (2, _), (3, _)]) Z dL_law_1720 (Nat.le_of_ble_eq_true rfl) rfl ?_
    refine x_aload_n Z dL_law_1722 rfl rfl ?_
    refine x_aload_n Z dL_law_1723 rfl rfl ?_
    refine x_iload Z dL_law_1724 rfl ?_
    refine x_iconst Z dL_law_1726 ?_
    refine x_iadd Z dL_law_1727 ?_
    refine x_sld Z hX (by omega) (by omega) dL_law_1728 (fun hz1728 => ?_)
    refine x_aload_n Z dL_law_1729 rfl rfl ?_
    refine x_iload Z dL_law_1730 rfl ?_
    refine x_iconst Z dL_law_1732 ?_
    refine x_iadd Z dL_law_1733 ?_
    refine x_sld Z hX (by omega) (by omega) dL_law_1734 (fun hz1734 => ?_)
    refine x_aload_n Z dL_law_1735 rfl rfl ?_
    refine x_iload Z dL_law_1736 rfl ?_
    refine x_iconst Z dL_law_1738 ?_
    refine x_iadd Z dL_law_1739 ?_
    refine x_sld Z hX (by omega) (by omega) dL_law_1740 (fun hz1740 => ?_)
    refine x_if_eq Z 1748 dL_law_1741 (by decide) ⟨by omega, by omega⟩ (fun c1741 => ?_) (fun c1741 => ?_)
    ·
      refine x_ib false Z dL_law_1748 (by decide) ?_
      refine x_callV (ci := 5) (C := RX4) (T := TX4) (N := 7) Z okX4_first q1289 q1290 q1291 rfl dL_law_1749 (c_X4_first h0 htr hS (by assumption) (by assumption)) hS.1 ⟨Nat.le_of_ble_eq_true rfl, Nat.le_of_ble_eq_true rfl, (by show _ + 0 ≤ 755723; omega), (by show _ + 0 ≤ 6834312; omega)⟩ rfl rfl (Nat.le_of_ble_eq_true rfl) (fun v9 w9 hR => ?_)
      obtain ⟨z6, T6, rfl, hS6, hf6, -⟩ := hR
      have hI := hC.ref hS6 hf6
      simp only [Option.toList_some, Option.toList_none, List.cons_append, List.nil_append]
      refine x_istore (L' := [(6, _), (5, _), (4, _), (0, _), (1, _), (2, _), (3, _)]) Z dL_law_1752 (Nat.le_of_ble_eq_true rfl) rfl ?_
      refine x_goto Z 2244 dL_law_1754 (by decide) ?_
      refine x_sub [2, 3, 4, 5, 6] rfl ?_
      refine x_wd (k' := k + 400) (n' := n + 40000) (by omega) (by omega) ?_
      exact join2244 _ hI
    ·
      refine x_ib true Z dL_law_1744 (by decide) ?_
      refine x_goto Z 1749 dL_law_1745 (by decide) ?_
      refine x_callV (ci := 5) (C := RX4) (T := TX4) (N := 7) Z okX4_first q1289 q1290 q1291 rfl dL_law_1749 (c_X4_first h0 htr hS (by assumption) (by assumption)) hS.1 ⟨Nat.le_of_ble_eq_true rfl, Nat.le_of_ble_eq_true rfl, (by show _ + 0 ≤ 755723; omega), (by show _ + 0 ≤ 6834312; omega)⟩ rfl rfl (Nat.le_of_ble_eq_true rfl) (fun v9 w9 hR => ?_)
      obtain ⟨z6, T6, rfl, hS6, hf6, -⟩ := hR
      have hI := hC.ref hS6 hf6
      simp only [Option.toList_some, Option.toList_none, List.cons_append, List.nil_append]
      refine x_istore (L' := [(6, _), (5, _), (4, _), (0, _), (1, _), (2, _), (3, _)]) Z dL_law_1752 (Nat.le_of_ble_eq_true rfl) rfl ?_
      refine x_goto Z 2244 dL_law_1754 (by decide) ?_
      refine x_sub [2, 3, 4, 5, 6] rfl ?_
      refine x_wd (k' := k + 400) (n' := n + 40000) (by omega) (by omega) ?_
      exact join2244 _ hI
set_option maxRecDepth 100000 in
theorem arm_34 {b : gBt} {l : Launch} {s0 : State} {G : gK} (h0 : gS0 s0) (htr : l.stackTraces = false) (Z : gAm b l s0 G cL_law RL 7 room_1) {sa Ls : Nat} {xs : Nat → Int32} (hX : lX b s0 sa Ls xs) {k n : Nat} {K : kA} {R : rA} {oc : Nat} {w : wd} {i : Int} (hI : lI G w K R oc) (hi0 : 0 ≤ i) (hi4 : i + 4 ≤ Ls) (hk : k + 400 ≤ 755723) (hn : n + 40000 ≤ 6834312) (join2244 : ∀ w2 : wd, lI G w2 K R oc → gX b s0 G (k + 400) (n + 40000) 2244 [(4, iv i), (0, rv sa), (1, rv K.1), (2, rv R.1), (3, rv oc)] [] w2) : gX b s0 G k n 1757 [(4, iv i), (0, rv sa), (1, rv K.1), (2, rv R.1), (3, rv oc)] [] w := by
  obtain ⟨-, -, -, hLs⟩ := id hX
  obtain ⟨M, S, yo, sv, hC⟩ := id hI
  obtain ⟨hS, hR2, ho, hd, hd2, hd3, hcp⟩ := id hC
  refine x_aload_n Z dL_law_1757 rfl rfl ?_
  refine x_aload_n Z dL_law_1758 rfl rfl ?_
  refine x_iload Z dL_law_1759 rfl ?_
  refine x_iconst Z dL_law_1761 ?_
  refine x_iadd Z dL_law_1762 ?_
  refine x_sld Z hX (by omega) (by omega) dL_law_1763 (fun hz1763 => ?_)
  refine x_aload_n Z dL_law_1764 rfl rfl ?_
  refine x_iload Z dL_law_1765 rfl ?_
  refine x_iconst Z dL_law_1767 ?_
  refine x_iadd Z dL_law_1768 ?_
  refine x_sld Z hX (by omega) (by omega) dL_law_1769 (fun hz1769 => ?_)
  refine x_aload_n Z dL_law_1770 rfl rfl ?_
  refine x_callSH Z okL_alike q917 q918 dL_law_1771 (c_L_alike h0 htr hS (by assumption) (by assumption) ho hd) ⟨Nat.le_of_ble_eq_true rfl, Nat.le_of_ble_eq_true rfl, (by show _ + 2 ≤ 755723; omega), (by show _ + 12 ≤ 6834312; omega)⟩ rfl rfl (Nat.le_of_ble_eq_true rfl) (fun v9 w9 hR => ?_)
  obtain ⟨z5, rfl, hcl⟩ := hR
  obtain ⟨y5, hC9, hz5⟩ := hC.tq hcl
  have hC := hC9
  obtain ⟨hSk, hS, ho, hd, hd2, hd3, hcp⟩ := id hC
  simp only [Option.toList_some, Option.toList_none, List.cons_append, List.nil_append]
  refine x_istore (L' := [(5, _), (4, _), (0, _), (1, _), (2, _), (3, _)]) Z dL_law_1774 (Nat.le_of_ble_eq_true rfl) rfl ?_
  refine x_aload_n Z dL_law_1776 rfl rfl ?_
  refine x_aload_n Z dL_law_1777 rfl rfl ?_
  refine x_iload Z dL_law_1778 rfl ?_
  refine x_iconst Z dL_law_1780 ?_
  refine x_iadd Z dL_law_1781 ?_
  refine x_sld Z hX (by omega) (by omega) dL_law_1782 (fun hz1782 => ?_)
  refine x_aload_n Z dL_law_1783 rfl rfl ?_
  refine x_iload Z dL_law_1784 rfl ?_
  refine x_iconst Z dL_law_1786 ?_
  refine x_iadd Z dL_law_1787 ?_
  refine x_sld Z hX (by omega) (by omega) dL_law_1788 (fun hz1788 => ?_)
  refine x_callV (ci := 5) (C := RX4) (T := TX4) (N := 7) Z okX4_alike q1293 q1294 q1295 rfl dL_law_1789 (c_X4_alike h0 htr hS (by assumption) (by assumption)) hS.1 ⟨Nat.le_of_ble_eq_true rfl, Nat.le_of_ble_eq_true rfl, (by show _ + 0 ≤ 755723; omega), (by show _ + 0 ≤ 6834312; omega)⟩ rfl rfl (Nat.le_of_ble_eq_true rfl) (fun v9 w9 hR => ?_)
  obtain ⟨z6, T6, rfl, hS6, hf6, -⟩ := hR
  have hI := hC.ref hS6 hf6
  simp only [Option.toList_some, Option.toList_none, List.cons_append, List.nil_append]
  refine x_istore (L' := [(6, _), (5, _), (4, _), (0, _), (1, _), (2, _), (3, _)]) Z dL_law_1792 (Nat.le_of_ble_eq_true rfl) rfl ?_
  refine x_goto Z 2244 dL_law_1794 (by decide) ?_
  refine x_sub [2, 3, 4, 5, 6] rfl ?_
  refine x_wd (k' := k + 400) (n' := n + 40000) (by omega) (by omega) ?_
  exact join2244 _ hI
set_option maxRecDepth 100000 in
theorem arm_35 {b : gBt} {l : Launch} {s0 : State} {G : gK} (h0 : gS0 s0) (htr : l.stackTraces = false) (Z : gAm b l s0 G cL_law RL 7 room_1) {sa Ls : Nat} {xs : Nat → Int32} (hX : lX b s0 sa Ls xs) {k n : Nat} {K : kA} {R : rA} {oc : Nat} {w : wd} {i : Int} (hI : lI G w K R oc) (hi0 : 0 ≤ i) (hi4 : i + 4 ≤ Ls) (hk : k + 400 ≤ 755723) (hn : n + 40000 ≤ 6834312) (join2244 : ∀ w2 : wd, lI G w2 K R oc → gX b s0 G (k + 400) (n + 40000) 2244 [(4, iv i), (0, rv sa), (1, rv K.1), (2, rv R.1), (3, rv oc)] [] w2) : gX b s0 G k n 1797 [(4, iv i), (0, rv sa), (1, rv K.1), (2, rv R.1), (3, rv oc)] [] w := by
  obtain ⟨-, -, -, hLs⟩ := id hX
  obtain ⟨M, S, yo, sv, hC⟩ := id hI
  obtain ⟨hS, hR2, ho, hd, hd2, hd3, hcp⟩ := id hC
  refine x_aload_n Z dL_law_1797 rfl rfl ?_
  refine x_aload_n Z dL_law_1798 rfl rfl ?_
  refine x_iload Z dL_law_1799 rfl ?_
  refine x_iconst Z dL_law_1801 ?_
  refine x_iadd Z dL_law_1802 ?_
  refine x_sld Z hX (by omega) (by omega) dL_law_1803 (fun hz1803 => ?_)
  refine x_aload_n Z dL_law_1804 rfl rfl ?_
  refine x_callSH Z okL_isName q924 q925 dL_law_1805 (c_L_isName h0 htr hS (by assumption) ho hd) ⟨Nat.le_of_ble_eq_true rfl, Nat.le_of_ble_eq_true rfl, (by show _ + 1 ≤ 755723; omega), (by show _ + 6 ≤ 6834312; omega)⟩ rfl rfl (Nat.le_of_ble_eq_true rfl) (fun v9 w9 hR => ?_)
  obtain ⟨z5, rfl, hcl⟩ := hR
  obtain ⟨y5, hC9, hz5⟩ := hC.tq hcl
  have hC := hC9
  obtain ⟨hSk, hS, ho, hd, hd2, hd3, hcp⟩ := id hC
  simp only [Option.toList_some, Option.toList_none, List.cons_append, List.nil_append]
  refine x_istore (L' := [(5, _), (4, _), (0, _), (1, _), (2, _), (3, _)]) Z dL_law_1808 (Nat.le_of_ble_eq_true rfl) rfl ?_
  refine x_aload_n Z dL_law_1810 rfl rfl ?_
  refine x_aload_n Z dL_law_1811 rfl rfl ?_
  refine x_iload Z dL_law_1812 rfl ?_
  refine x_iconst Z dL_law_1814 ?_
  refine x_iadd Z dL_law_1815 ?_
  refine x_sld Z hX (by omega) (by omega) dL_law_1816 (fun hz1816 => ?_)
  refine x_callV (ci := 5) (C := RX4) (T := TX4) (N := 7) Z okX4_isName q1297 q1298 q1299 rfl dL_law_1817 (c_X4_isName h0 htr hS (by assumption)) hS.1 ⟨Nat.le_of_ble_eq_true rfl, Nat.le_of_ble_eq_true rfl, (by show _ + 0 ≤ 755723; omega), (by show _ + 0 ≤ 6834312; omega)⟩ rfl rfl (Nat.le_of_ble_eq_true rfl) (fun v9 w9 hR => ?_)
  obtain ⟨z6, T6, rfl, hS6, hf6, -⟩ := hR
  have hI := hC.ref hS6 hf6
  simp only [Option.toList_some, Option.toList_none, List.cons_append, List.nil_append]
  refine x_istore (L' := [(6, _), (5, _), (4, _), (0, _), (1, _), (2, _), (3, _)]) Z dL_law_1820 (Nat.le_of_ble_eq_true rfl) rfl ?_
  refine x_goto Z 2244 dL_law_1822 (by decide) ?_
  refine x_sub [2, 3, 4, 5, 6] rfl ?_
  refine x_wd (k' := k + 400) (n' := n + 40000) (by omega) (by omega) ?_
  exact join2244 _ hI
set_option maxRecDepth 100000 in
theorem arm_36 {b : gBt} {l : Launch} {s0 : State} {G : gK} (h0 : gS0 s0) (htr : l.stackTraces = false) (Z : gAm b l s0 G cL_law RL 7 room_1) {sa Ls : Nat} {xs : Nat → Int32} (hX : lX b s0 sa Ls xs) {k n : Nat} {K : kA} {R : rA} {oc : Nat} {w : wd} {i : Int} (hI : lI G w K R oc) (hi0 : 0 ≤ i) (hi4 : i + 4 ≤ Ls) (hk : k + 400 ≤ 755723) (hn : n + 40000 ≤ 6834312) (join2244 : ∀ w2 : wd, lI G w2 K R oc → gX b s0 G (k + 400) (n + 40000) 2244 [(4, iv i), (0, rv sa), (1, rv K.1), (2, rv R.1), (3, rv oc)] [] w2) : gX b s0 G k n 1825 [(4, iv i), (0, rv sa), (1, rv K.1), (2, rv R.1), (3, rv oc)] [] w := by
  obtain ⟨-, -, -, hLs⟩ := id hX
  obtain ⟨M, S, yo, sv, hC⟩ := id hI
  obtain ⟨hS, hR2, ho, hd, hd2, hd3, hcp⟩ := id hC
  refine x_aload_n Z dL_law_1825 rfl rfl ?_
  refine x_aload_n Z dL_law_1826 rfl rfl ?_
  refine x_iload Z dL_law_1827 rfl ?_
  refine x_iconst Z dL_law_1829 ?_
  refine x_iadd Z dL_law_1830 ?_
  refine x_sld Z hX (by omega) (by omega) dL_law_1831 (fun hz1831 => ?_)
  refine x_aload_n Z dL_law_1832 rfl rfl ?_
  refine x_callSH Z okL_fault q931 q932 dL_law_1833 (c_L_fault h0 htr hS (by assumption) ho hd) ⟨Nat.le_of_ble_eq_true rfl, Nat.le_of_ble_eq_true rfl, (by show _ + 1 ≤ 755723; omega), (by show _ + 6 ≤ 6834312; omega)⟩ rfl rfl (Nat.le_of_ble_eq_true rfl) (fun v9 w9 hR => ?_)
  obtain ⟨z5, rfl, hcl⟩ := hR
  obtain ⟨y5, hC9, hz5⟩ := hC.tq hcl
  have hC := hC9
  obtain ⟨hSk, hS, ho, hd, hd2, hd3, hcp⟩ := id hC
  simp only [Option.toList_some, Option.toList_none, List.cons_append, List.nil_append]
  refine x_istore (L' := [(5, _), (4, _), (0, _), (1, _), (2, _), (3, _)]) Z dL_law_1836 (Nat.le_of_ble_eq_true rfl) rfl ?_
  refine x_aload_n Z dL_law_1838 rfl rfl ?_
  refine x_aload_n Z dL_law_1839 rfl rfl ?_
  refine x_iload Z dL_law_1840 rfl ?_
  refine x_iconst Z dL_law_1842 ?_
  refine x_iadd Z dL_law_1843 ?_
  refine x_sld Z hX (by omega) (by omega) dL_law_1844 (fun hz1844 => ?_)
  refine x_callV (ci := 5) (C := RX4) (T := TX4) (N := 7) Z okX4_fault q1305 q1306 q1307 rfl dL_law_1845 (c_X4_fault h0 htr hS (by assumption)) hS.1 ⟨Nat.le_of_ble_eq_true rfl, Nat.le_of_ble_eq_true rfl, (by show _ + 0 ≤ 755723; omega), (by show _ + 0 ≤ 6834312; omega)⟩ rfl rfl (Nat.le_of_ble_eq_true rfl) (fun v9 w9 hR => ?_)
  obtain ⟨z6, T6, rfl, hS6, hf6, -⟩ := hR
  have hI := hC.ref hS6 hf6
  simp only [Option.toList_some, Option.toList_none, List.cons_append, List.nil_append]
  refine x_istore (L' := [(6, _), (5, _), (4, _), (0, _), (1, _), (2, _), (3, _)]) Z dL_law_1848 (Nat.le_of_ble_eq_true rfl) rfl ?_
  refine x_goto Z 2244 dL_law_1850 (by decide) ?_
  refine x_sub [2, 3, 4, 5, 6] rfl ?_
  refine x_wd (k' := k + 400) (n' := n + 40000) (by omega) (by omega) ?_
  exact join2244 _ hI
set_option maxRecDepth 100000 in
theorem arm_37 {b : gBt} {l : Launch} {s0 : State} {G : gK} (h0 : gS0 s0) (htr : l.stackTraces = false) (Z : gAm b l s0 G cL_law RL 7 room_1) {sa Ls : Nat} {xs : Nat → Int32} (hX : lX b s0 sa Ls xs) {k n : Nat} {K : kA} {R : rA} {oc : Nat} {w : wd} {i : Int} (hI : lI G w K R oc) (hi0 : 0 ≤ i) (hi4 : i + 4 ≤ Ls) (hk : k + 400 ≤ 755723) (hn : n + 40000 ≤ 6834312) (join2244 : ∀ w2 : wd, lI G w2 K R oc → gX b s0 G (k + 400) (n + 40000) 2244 [(4, iv i), (0, rv sa), (1, rv K.1), (2, rv R.1), (3, rv oc)] [] w2) : gX b s0 G k n 1853 [(4, iv i), (0, rv sa), (1, rv K.1), (2, rv R.1), (3, rv oc)] [] w := by
  obtain ⟨-, -, -, hLs⟩ := id hX
  obtain ⟨M, S, yo, sv, hC⟩ := id hI
  obtain ⟨hS, hR2, ho, hd, hd2, hd3, hcp⟩ := id hC
  refine x_aload_n Z dL_law_1853 rfl rfl ?_
  refine x_aload_n Z dL_law_1854 rfl rfl ?_
  refine x_iload Z dL_law_1855 rfl ?_
  refine x_iconst Z dL_law_1857 ?_
  refine x_iadd Z dL_law_1858 ?_
  refine x_sld Z hX (by omega) (by omega) dL_law_1859 (fun hz1859 => ?_)
  refine x_aload_n Z dL_law_1860 rfl rfl ?_
  refine x_iload Z dL_law_1861 rfl ?_
  refine x_iconst Z dL_law_1863 ?_
  refine x_iadd Z dL_law_1864 ?_
  refine x_sld Z hX (by omega) (by omega) dL_law_1865 (fun hz1865 => ?_)
  refine x_aload_n Z dL_law_1866 rfl rfl ?_
  refine x_iload Z dL_law_1867 rfl ?_
  refine x_iconst Z dL_law_1869 ?_
  refine x_iadd Z dL_law_1870 ?_
  refine x_sld Z hX (by omega) (by omega) dL_law_1871 (fun hz1871 => ?_)
  refine x_aload_n Z dL_law_1872 rfl rfl ?_
  refine x_callSH Z okL_sort q939 q940 dL_law_1873 (c_L_sort h0 htr hS (by assumption) (by assumption) (by assumption) ho hd) ⟨Nat.le_of_ble_eq_true rfl, Nat.le_of_ble_eq_true rfl, (by show _ + 2 ≤ 755723; omega), (by show _ + 12 ≤ 6834312; omega)⟩ rfl rfl (Nat.le_of_ble_eq_true rfl) (fun v9 w9 hR => ?_)
  obtain ⟨z5, rfl, hcl⟩ := hR
  obtain ⟨y5, hC9, hz5⟩ := hC.tq hcl
  have hC := hC9
  obtain ⟨hSk, hS, ho, hd, hd2, hd3, hcp⟩ := id hC
  simp only [Option.toList_some, Option.toList_none, List.cons_append, List.nil_append]
  refine x_istore (L' := [(5, _), (4, _), (0, _), (1, _), (2, _), (3, _)]) Z dL_law_1876 (Nat.le_of_ble_eq_true rfl) rfl ?_
  refine x_aload_n Z dL_law_1878 rfl rfl ?_
  refine x_aload_n Z dL_law_1879 rfl rfl ?_
  refine x_iload Z dL_law_1880 rfl ?_
  refine x_iconst Z dL_law_1882 ?_
  refine x_iadd Z dL_law_1883 ?_
  refine x_sld Z hX (by omega) (by omega) dL_law_1884 (fun hz1884 => ?_)
  refine x_aload_n Z dL_law_1885 rfl rfl ?_
  refine x_iload Z dL_law_1886 rfl ?_
  refine x_iconst Z dL_law_1888 ?_
  refine x_iadd Z dL_law_1889 ?_
  refine x_sld Z hX (by omega) (by omega) dL_law_1890 (fun hz1890 => ?_)
  refine x_aload_n Z dL_law_1891 rfl rfl ?_
  refine x_iload Z dL_law_1892 rfl ?_
  refine x_iconst Z dL_law_1894 ?_
  refine x_iadd Z dL_law_1895 ?_
  refine x_sld Z hX (by omega) (by omega) dL_law_1896 (fun hz1896 => ?_)
  refine x_callV (ci := 5) (C := RX4) (T := TX4) (N := 7) Z okX4_sort q1313 q1314 q1315 rfl dL_law_1897 (c_X4_sort h0 htr hS (by assumption) (by assumption) (by assumption)) hS.1 ⟨Nat.le_of_ble_eq_true rfl, Nat.le_of_ble_eq_true rfl, (by show _ + 0 ≤ 755723; omega), (by show _ + 0 ≤ 6834312; omega)⟩ rfl rfl (Nat.le_of_ble_eq_true rfl) (fun v9 w9 hR => ?_)
  obtain ⟨z6, T6, rfl, hS6, hf6, -⟩ := hR
  have hI := hC.ref hS6 hf6
  simp only [Option.toList_some, Option.toList_none, List.cons_append, List.nil_append]
  refine x_istore (L' := [(6, _), (5, _), (4, _), (0, _), (1, _), (2, _), (3, _)]) Z dL_law_1900 (Nat.le_of_ble_eq_true rfl) rfl ?_
  refine x_goto Z 2244 dL_law_1902 (by decide) ?_
  refine x_sub [2, 3, 4, 5, 6] rfl ?_
  refine x_wd (k' := k + 400) (n' := n + 40000) (by omega) (by omega) ?_
  exact join2244 _ hI
set_option maxRecDepth 100000 in
theorem arm_38 {b : gBt} {l : Launch} {s0 : State} {G : gK} (h0 : gS0 s0) (htr : l.stackTraces = false) (Z : gAm b l s0 G cL_law RL 7 room_1) {sa Ls : Nat} {xs : Nat → Int32} (hX : lX b s0 sa Ls xs) {k n : Nat} {K : kA} {R : rA} {oc : Nat} {w : wd} {i : Int} (hI : lI G w K R oc) (hi0 : 0 ≤ i) (hi4 : i + 4 ≤ Ls) (hk : k + 400 ≤ 755723) (hn : n + 40000 ≤ 6834312) (join2244 : ∀ w2 : wd, lI G w2 K R oc → gX b s0 G (k + 400) (n + 40000) 2244 [(4, iv i), (0, rv sa), (1, rv K.1), (2, rv R.1), (3, rv oc)] [] w2) : gX b s0 G k n 1905 [(4, iv i), (0, rv sa), (1, rv K.1), (2, rv R.1), (3, rv oc)] [] w := by
  obtain ⟨-, -, -, hLs⟩ := id hX
  obtain ⟨M, S, yo, sv, hC⟩ := id hI
  obtain ⟨hS, hR2, ho, hd, hd2, hd3, hcp⟩ := id hC
  refine x_aload_n Z dL_law_1905 rfl rfl ?_
  refine x_aload_n Z dL_law_1906 rfl rfl ?_
  refine x_iload Z dL_law_1907 rfl ?_
  refine x_iconst Z dL_law_1909 ?_
  refine x_iadd Z dL_law_1910 ?_
  refine x_sld Z hX (by omega) (by omega) dL_law_1911 (fun hz1911 => ?_)
  refine x_aload_n Z dL_law_1912 rfl rfl ?_
  refine x_iload Z dL_law_1913 rfl ?_
  refine x_iconst Z dL_law_1915 ?_
  refine x_iadd Z dL_law_1916 ?_
  refine x_sld Z hX (by omega) (by omega) dL_law_1917 (fun hz1917 => ?_)
  refine x_aload_n Z dL_law_1918 rfl rfl ?_
  refine x_callSH Z okL_longest q950 q951 dL_law_1919 (c_L_longest h0 htr hS (by assumption) (by assumption) ho hd) ⟨Nat.le_of_ble_eq_true rfl, Nat.le_of_ble_eq_true rfl, (by show _ + 2 ≤ 755723; omega), (by show _ + 12 ≤ 6834312; omega)⟩ rfl rfl (Nat.le_of_ble_eq_true rfl) (fun v9 w9 hR => ?_)
  obtain ⟨z5, rfl, hcl⟩ := hR
  obtain ⟨y5, hC9, hz5⟩ := hC.tq hcl
  have hC := hC9
  obtain ⟨hSk, hS, ho, hd, hd2, hd3, hcp⟩ := id hC
  simp only [Option.toList_some, Option.toList_none, List.cons_append, List.nil_append]
  refine x_istore (L' := [(5, _), (4, _), (0, _), (1, _), (2, _), (3, _)]) Z dL_law_1922 (Nat.le_of_ble_eq_true rfl) rfl ?_
  refine x_aload_n Z dL_law_1924 rfl rfl ?_
  refine x_aload_n Z dL_law_1925 rfl rfl ?_
  refine x_iload Z dL_law_1926 rfl ?_
  refine x_iconst Z dL_law_1928 ?_
  refine x_iadd Z dL_law_1929 ?_
  refine x_sld Z hX (by omega) (by omega) dL_law_1930 (fun hz1930 => ?_)
  refine x_aload_n Z dL_law_1931 rfl rfl ?_
  refine x_iload Z dL_law_1932 rfl ?_
  refine x_iconst Z dL_law_1934 ?_
  refine x_iadd Z dL_law_1935 ?_
  refine x_sld Z hX (by omega) (by omega) dL_law_1936 (fun hz1936 => ?_)
  refine x_callV (ci := 5) (C := RX4) (T := TX4) (N := 7) Z okX4_longest q1317 q1318 q1319 rfl dL_law_1937 (c_X4_longest h0 htr hS (by assumption) (by assumption)) hS.1 ⟨Nat.le_of_ble_eq_true rfl, Nat.le_of_ble_eq_true rfl, (by show _ + 0 ≤ 755723; omega), (by show _ + 0 ≤ 6834312; omega)⟩ rfl rfl (Nat.le_of_ble_eq_true rfl) (fun v9 w9 hR => ?_)
  obtain ⟨z6, T6, rfl, hS6, hf6, -⟩ := hR
  have hI := hC.ref hS6 hf6
  simp only [Option.toList_some, Option.toList_none, List.cons_append, List.nil_append]
  refine x_istore (L' := [(6, _), (5, _), (4, _), (0, _), (1, _), (2, _), (3, _)]) Z dL_law_1940 (Nat.le_of_ble_eq_true rfl) rfl ?_
  refine x_goto Z 2244 dL_law_1942 (by decide) ?_
  refine x_sub [2, 3, 4, 5, 6] rfl ?_
  refine x_wd (k' := k + 400) (n' := n + 40000) (by omega) (by omega) ?_
  exact join2244 _ hI
set_option maxRecDepth 100000 in
theorem arm_39 {b : gBt} {l : Launch} {s0 : State} {G : gK} (h0 : gS0 s0) (htr : l.stackTraces = false) (Z : gAm b l s0 G cL_law RL 7 room_1) {sa Ls : Nat} {xs : Nat → Int32} (hX : lX b s0 sa Ls xs) {k n : Nat} {K : kA} {R : rA} {oc : Nat} {w : wd} {i : Int} (hI : lI G w K R oc) (hi0 : 0 ≤ i) (hi4 : i + 4 ≤ Ls) (hk : k + 400 ≤ 755723) (hn : n + 40000 ≤ 6834312) (join2244 : ∀ w2 : wd, lI G w2 K R oc → gX b s0 G (k + 400) (n + 40000) 2244 [(4, iv i), (0, rv sa), (1, rv K.1), (2, rv R.1), (3, rv oc)] [] w2) : gX b s0 G k n 1945 [(4, iv i), (0, rv sa), (1, rv K.1), (2, rv R.1), (3, rv oc)] [] w := by
  obtain ⟨-, -, -, hLs⟩ := id hX
  obtain ⟨M, S, yo, sv, hC⟩ := id hI
  obtain ⟨hS, hR2, ho, hd, hd2, hd3, hcp⟩ := id hC
  refine x_aload_n Z dL_law_1945 rfl rfl ?_
  refine x_aload_n Z dL_law_1946 rfl rfl ?_
  refine x_iload Z dL_law_1947 rfl ?_
  refine x_iconst Z dL_law_1949 ?_
  refine x_iadd Z dL_law_1950 ?_
  refine x_sld Z hX (by omega) (by omega) dL_law_1951 (fun hz1951 => ?_)
  refine x_aload_n Z dL_law_1952 rfl rfl ?_
  refine x_callSH Z okL_pieces q957 q958 dL_law_1953 (c_L_pieces h0 htr hS (by assumption) ho hd) ⟨Nat.le_of_ble_eq_true rfl, Nat.le_of_ble_eq_true rfl, (by show _ + 1 ≤ 755723; omega), (by show _ + 6 ≤ 6834312; omega)⟩ rfl rfl (Nat.le_of_ble_eq_true rfl) (fun v9 w9 hR => ?_)
  obtain ⟨z5, rfl, hcl⟩ := hR
  obtain ⟨y5, hC9, hz5⟩ := hC.tq hcl
  have hC := hC9
  obtain ⟨hSk, hS, ho, hd, hd2, hd3, hcp⟩ := id hC
  simp only [Option.toList_some, Option.toList_none, List.cons_append, List.nil_append]
  refine x_istore (L' := [(5, _), (4, _), (0, _), (1, _), (2, _), (3, _)]) Z dL_law_1956 (Nat.le_of_ble_eq_true rfl) rfl ?_
  refine x_aload_n Z dL_law_1958 rfl rfl ?_
  refine x_aload_n Z dL_law_1959 rfl rfl ?_
  refine x_iload Z dL_law_1960 rfl ?_
  refine x_iconst Z dL_law_1962 ?_
  refine x_iadd Z dL_law_1963 ?_
  refine x_sld Z hX (by omega) (by omega) dL_law_1964 (fun hz1964 => ?_)
  refine x_callV (ci := 5) (C := RX4) (T := TX4) (N := 7) Z okX4_pieces q1321 q1322 q1323 rfl dL_law_1965 (c_X4_pieces h0 htr hS (by assumption)) hS.1 ⟨Nat.le_of_ble_eq_true rfl, Nat.le_of_ble_eq_true rfl, (by show _ + 0 ≤ 755723; omega), (by show _ + 0 ≤ 6834312; omega)⟩ rfl rfl (Nat.le_of_ble_eq_true rfl) (fun v9 w9 hR => ?_)
  obtain ⟨z6, T6, rfl, hS6, hf6, -⟩ := hR
  have hI := hC.ref hS6 hf6
  simp only [Option.toList_some, Option.toList_none, List.cons_append, List.nil_append]
  refine x_istore (L' := [(6, _), (5, _), (4, _), (0, _), (1, _), (2, _), (3, _)]) Z dL_law_1968 (Nat.le_of_ble_eq_true rfl) rfl ?_
  refine x_goto Z 2244 dL_law_1970 (by decide) ?_
  refine x_sub [2, 3, 4, 5, 6] rfl ?_
  refine x_wd (k' := k + 400) (n' := n + 40000) (by omega) (by omega) ?_
  exact join2244 _ hI
set_option maxRecDepth 100000 in
theorem arm_40 {b : gBt} {l : Launch} {s0 : State} {G : gK} (h0 : gS0 s0) (htr : l.stackTraces = false) (Z : gAm b l s0 G cL_law RL 7 room_1) {sa Ls : Nat} {xs : Nat → Int32} (hX : lX b s0 sa Ls xs) {k n : Nat} {K : kA} {R : rA} {oc : Nat} {w : wd} {i : Int} (hI : lI G w K R oc) (hi0 : 0 ≤ i) (hi4 : i + 4 ≤ Ls) (hk : k + 400 ≤ 755723) (hn : n + 40000 ≤ 6834312) (join2244 : ∀ w2 : wd, lI G w2 K R oc → gX b s0 G (k + 400) (n + 40000) 2244 [(4, iv i), (0, rv sa), (1, rv K.1), (2, rv R.1), (3, rv oc)] [] w2) : gX b s0 G k n 1973 [(4, iv i), (0, rv sa), (1, rv K.1), (2, rv R.1), (3, rv oc)] [] w := by
  obtain ⟨-, -, -, hLs⟩ := id hX
  obtain ⟨M, S, yo, sv, hC⟩ := id hI
  obtain ⟨hS, hR2, ho, hd, hd2, hd3, hcp⟩ := id hC
  refine x_aload_n Z dL_law_1973 rfl rfl ?_
  refine x_aload_n Z dL_law_1974 rfl rfl ?_
  refine x_iload Z dL_law_1975 rfl ?_
  refine x_iconst Z dL_law_1977 ?_
  refine x_iadd Z dL_law_1978 ?_
  refine x_sld Z hX (by omega) (by omega) dL_law_1979 (fun hz1979 => ?_)
  refine x_aload_n Z dL_law_1980 rfl rfl ?_
  refine x_iload Z dL_law_1981 rfl ?_
  refine x_iconst Z dL_law_1983 ?_
  refine x_iadd Z dL_law_1984 ?_
  refine x_sld Z hX (by omega) (by omega) dL_law_1985 (fun hz1985 => ?_)
  refine x_aload_n Z dL_law_1986 rfl rfl ?_
  refine x_iload Z dL_law_1987 rfl ?_
  refine x_iconst Z dL_law_1989 ?_
  refine x_iadd Z dL_law_1990 ?_
  refine x_sld Z hX (by omega) (by omega) dL_law_1991 (fun hz1991 => ?_)
  refine x_aload_n Z dL_law_1992 rfl rfl ?_
  refine x_callSH Z okL_piece q965 q966 dL_law_1993 (c_L_piece h0 htr hS (by assumption) (by assumption) (by assumption) ho hd) ⟨Nat.le_of_ble_eq_true rfl, Nat.le_of_ble_eq_true rfl, (by show _ + 3 ≤ 755723; omega), (by show _ + 18 ≤ 6834312; omega)⟩ rfl rfl (Nat.le_of_ble_eq_true rfl) (fun v9 w9 hR => ?_)
  obtain ⟨z5, rfl, hcl⟩ := hR
  obtain ⟨y5, hC9, hz5⟩ := hC.tq hcl
  have hC := hC9
  obtain ⟨hSk, hS, ho, hd, hd2, hd3, hcp⟩ := id hC
  simp only [Option.toList_some, Option.toList_none, List.cons_append, List.nil_append]
  refine x_istore (L' := [(5, _), (4, _), (0, _), (1, _), (2, _), (3, _)]) Z dL_law_1996 (Nat.le_of_ble_eq_true rfl) rfl ?_
  refine x_aload_n Z dL_law_1998 rfl rfl ?_
  refine x_aload_n Z dL_law_1999 rfl rfl ?_
  refine x_iload Z dL_law_2000 rfl ?_
  refine x_iconst Z dL_law_2002 ?_
  refine x_iadd Z dL_law_2003 ?_
  refine x_sld Z hX (by omega) (by omega) dL_law_2004 (fun hz2004 => ?_)
  refine x_aload_n Z dL_law_2005 rfl rfl ?_
  refine x_iload Z dL_law_2006 rfl ?_
  refine x_iconst Z dL_law_2008 ?_
  refine x_iadd Z dL_law_2009 ?_
  refine x_sld Z hX (by omega) (by omega) dL_law_2010 (fun hz2010 => ?_)
  refine x_aload_n Z dL_law_2011 rfl rfl ?_
  refine x_iload Z dL_law_2012 rfl ?_
  refine x_iconst Z dL_law_2014 ?_
  refine x_iadd Z dL_law_2015 ?_
  refine x_sld Z hX (by omega) (by omega) dL_law_2016 (fun hz2016 => ?_)
  refine x_callV (ci := 5) (C := RX4) (T := TX4) (N := 7) Z okX4_piece q1329 q1330 q1331 rfl dL_law_2017 (c_X4_piece h0 htr hS (by assumption) (by assumption) (by assumption)) hS.1 ⟨Nat.le_of_ble_eq_true rfl, Nat.le_of_ble_eq_true rfl, (by show _ + 0 ≤ 755723; omega), (by show _ + 0 ≤ 6834312; omega)⟩ rfl rfl (Nat.le_of_ble_eq_true rfl) (fun v9 w9 hR => ?_)
  obtain ⟨z6, T6, rfl, hS6, hf6, -⟩ := hR
  have hI := hC.ref hS6 hf6
  simp only [Option.toList_some, Option.toList_none, List.cons_append, List.nil_append]
  refine x_istore (L' := [(6, _), (5, _), (4, _), (0, _), (1, _), (2, _), (3, _)]) Z dL_law_2020 (Nat.le_of_ble_eq_true rfl) rfl ?_
  refine x_goto Z 2244 dL_law_2022 (by decide) ?_
  refine x_sub [2, 3, 4, 5, 6] rfl ?_
  refine x_wd (k' := k + 400) (n' := n + 40000) (by omega) (by omega) ?_
  exact join2244 _ hI
set_option maxRecDepth 100000 in
theorem arm_41 {b : gBt} {l : Launch} {s0 : State} {G : gK} (h0 : gS0 s0) (htr : l.stackTraces = false) (Z : gAm b l s0 G cL_law RL 7 room_1) {sa Ls : Nat} {xs : Nat → Int32} (hX : lX b s0 sa Ls xs) {k n : Nat} {K : kA} {R : rA} {oc : Nat} {w : wd} {i : Int} (hI : lI G w K R oc) (hi0 : 0 ≤ i) (hi4 : i + 4 ≤ Ls) (hk : k + 400 ≤ 755723) (hn : n + 40000 ≤ 6834312) (join2244 : ∀ w2 : wd, lI G w2 K R oc → gX b s0 G (k + 400) (n + 40000) 2244 [(4, iv i), (0, rv sa), (1, rv K.1), (2, rv R.1), (3, rv oc)] [] w2) : gX b s0 G k n 2025 [(4, iv i), (0, rv sa), (1, rv K.1), (2, rv R.1), (3, rv oc)] [] w := by
  obtain ⟨-, -, -, hLs⟩ := id hX
  obtain ⟨M, S, yo, sv, hC⟩ := id hI
  obtain ⟨hS, hR2, ho, hd, hd2, hd3, hcp⟩ := id hC
  refine x_aload_n Z dL_law_2025 rfl rfl ?_
  refine x_aload_n Z dL_law_2026 rfl rfl ?_
  refine x_iload Z dL_law_2027 rfl ?_
  refine x_iconst Z dL_law_2029 ?_
  refine x_iadd Z dL_law_2030 ?_
  refine x_sld Z hX (by omega) (by omega) dL_law_2031 (fun hz2031 => ?_)
  refine x_aload_n Z dL_law_2032 rfl rfl ?_
  refine x_callSH Z okL_sorts q973 q974 dL_law_2033 (c_L_sorts h0 htr hS (by assumption) ho hd) ⟨Nat.le_of_ble_eq_true rfl, Nat.le_of_ble_eq_true rfl, (by show _ + 126 ≤ 755723; omega), (by show _ + 16496 ≤ 6834312; omega)⟩ rfl rfl (Nat.le_of_ble_eq_true rfl) (fun v9 w9 hR => ?_)
  obtain ⟨⟨z5, rfl⟩, hW⟩ := hR
  obtain ⟨y5, sv5, hC9⟩ := hC.cls hW
  have hC := hC9
  obtain ⟨hSk, hS, ho, hd, hd2, hd3, hcp⟩ := id hC
  simp only [Option.toList_some, Option.toList_none, List.cons_append, List.nil_append]
  refine x_istore (L' := [(5, _), (4, _), (0, _), (1, _), (2, _), (3, _)]) Z dL_law_2036 (Nat.le_of_ble_eq_true rfl) rfl ?_
  refine x_aload_n Z dL_law_2038 rfl rfl ?_
  refine x_aload_n Z dL_law_2039 rfl rfl ?_
  refine x_iload Z dL_law_2040 rfl ?_
  refine x_iconst Z dL_law_2042 ?_
  refine x_iadd Z dL_law_2043 ?_
  refine x_sld Z hX (by omega) (by omega) dL_law_2044 (fun hz2044 => ?_)
  refine x_callV (ci := 5) (C := RX4) (T := TX4) (N := 7) Z okX4_sorts q1333 q1334 q1335 rfl dL_law_2045 (c_X4_sorts h0 htr hS (by assumption)) hS.1 ⟨Nat.le_of_ble_eq_true rfl, Nat.le_of_ble_eq_true rfl, (by show _ + 126 ≤ 755723; omega), (by show _ + 16496 ≤ 6834312; omega)⟩ rfl rfl (Nat.le_of_ble_eq_true rfl) (fun v9 w9 hR => ?_)
  obtain ⟨⟨z6, rfl⟩, T6, hS6, hf6⟩ := hR
  have hI := hC.ref hS6 hf6
  simp only [Option.toList_some, Option.toList_none, List.cons_append, List.nil_append]
  refine x_astore (L' := [(6, _), (5, _), (4, _), (0, _), (1, _), (2, _), (3, _)]) Z dL_law_2048 (Nat.le_of_ble_eq_true rfl) rfl ?_
  refine x_goto Z 2244 dL_law_2050 (by decide) ?_
  refine x_sub [2, 3, 4, 5, 6] rfl ?_
  refine x_wd (k' := k + 400) (n' := n + 40000) (by omega) (by omega) ?_
  exact join2244 _ hI
set_option maxRecDepth 100000 in
theorem arm_42 {b : gBt} {l : Launch} {s0 : State} {G : gK} (h0 : gS0 s0) (htr : l.stackTraces = false) (Z : gAm b l s0 G cL_law RL 7 room_1) {sa Ls : Nat} {xs : Nat → Int32} (hX : lX b s0 sa Ls xs) {k n : Nat} {K : kA} {R : rA} {oc : Nat} {w : wd} {i : Int} (hI : lI G w K R oc) (hi0 : 0 ≤ i) (hi4 : i + 4 ≤ Ls) (hk : k + 400 ≤ 755723) (hn : n + 40000 ≤ 6834312) (join2244 : ∀ w2 : wd, lI G w2 K R oc → gX b s0 G (k + 400) (n + 40000) 2244 [(4, iv i), (0, rv sa), (1, rv K.1), (2, rv R.1), (3, rv oc)] [] w2) : gX b s0 G k n 2053 [(4, iv i), (0, rv sa), (1, rv K.1), (2, rv R.1), (3, rv oc)] [] w := by
  obtain ⟨-, -, -, hLs⟩ := id hX
  obtain ⟨M, S, yo, sv, hC⟩ := id hI
  obtain ⟨hS, hR2, ho, hd, hd2, hd3, hcp⟩ := id hC
  refine x_aload_n Z dL_law_2053 rfl rfl ?_
  refine x_aload_n Z dL_law_2054 rfl rfl ?_
  refine x_iload Z dL_law_2055 rfl ?_
  refine x_iconst Z dL_law_2057 ?_
  refine x_iadd Z dL_law_2058 ?_
  refine x_sld Z hX (by omega) (by omega) dL_law_2059 (fun hz2059 => ?_)
  refine x_aload_n Z dL_law_2060 rfl rfl ?_
  refine x_callSH Z okL_cuts q981 q982 dL_law_2061 (c_L_cuts h0 htr hS (by assumption) ho hd) ⟨Nat.le_of_ble_eq_true rfl, Nat.le_of_ble_eq_true rfl, (by show _ + 1 ≤ 755723; omega), (by show _ + 6 ≤ 6834312; omega)⟩ rfl rfl (Nat.le_of_ble_eq_true rfl) (fun v9 w9 hR => ?_)
  obtain ⟨z5, rfl, hcl⟩ := hR
  obtain ⟨y5, hC9, hz5⟩ := hC.tq hcl
  have hC := hC9
  obtain ⟨hSk, hS, ho, hd, hd2, hd3, hcp⟩ := id hC
  simp only [Option.toList_some, Option.toList_none, List.cons_append, List.nil_append]
  refine x_istore (L' := [(5, _), (4, _), (0, _), (1, _), (2, _), (3, _)]) Z dL_law_2064 (Nat.le_of_ble_eq_true rfl) rfl ?_
  refine x_aload_n Z dL_law_2066 rfl rfl ?_
  refine x_aload_n Z dL_law_2067 rfl rfl ?_
  refine x_iload Z dL_law_2068 rfl ?_
  refine x_iconst Z dL_law_2070 ?_
  refine x_iadd Z dL_law_2071 ?_
  refine x_sld Z hX (by omega) (by omega) dL_law_2072 (fun hz2072 => ?_)
  refine x_callV (ci := 5) (C := RX4) (T := TX4) (N := 7) Z okX4_cuts q1337 q1338 q1339 rfl dL_law_2073 (c_X4_cuts h0 htr hS (by assumption)) hS.1 ⟨Nat.le_of_ble_eq_true rfl, Nat.le_of_ble_eq_true rfl, (by show _ + 0 ≤ 755723; omega), (by show _ + 0 ≤ 6834312; omega)⟩ rfl rfl (Nat.le_of_ble_eq_true rfl) (fun v9 w9 hR => ?_)
  obtain ⟨z6, T6, rfl, hS6, hf6, -⟩ := hR
  have hI := hC.ref hS6 hf6
  simp only [Option.toList_some, Option.toList_none, List.cons_append, List.nil_append]
  refine x_istore (L' := [(6, _), (5, _), (4, _), (0, _), (1, _), (2, _), (3, _)]) Z dL_law_2076 (Nat.le_of_ble_eq_true rfl) rfl ?_
  refine x_goto Z 2244 dL_law_2078 (by decide) ?_
  refine x_sub [2, 3, 4, 5, 6] rfl ?_
  refine x_wd (k' := k + 400) (n' := n + 40000) (by omega) (by omega) ?_
  exact join2244 _ hI
set_option maxRecDepth 100000 in
theorem arm_43 {b : gBt} {l : Launch} {s0 : State} {G : gK} (h0 : gS0 s0) (htr : l.stackTraces = false) (Z : gAm b l s0 G cL_law RL 7 room_1) {sa Ls : Nat} {xs : Nat → Int32} (hX : lX b s0 sa Ls xs) {k n : Nat} {K : kA} {R : rA} {oc : Nat} {w : wd} {i : Int} (hI : lI G w K R oc) (hi0 : 0 ≤ i) (hi4 : i + 4 ≤ Ls) (hk : k + 400 ≤ 755723) (hn : n + 40000 ≤ 6834312) (join2244 : ∀ w2 : wd, lI G w2 K R oc → gX b s0 G (k + 400) (n + 40000) 2244 [(4, iv i), (0, rv sa), (1, rv K.1), (2, rv R.1), (3, rv oc)] [] w2) : gX b s0 G k n 2081 [(4, iv i), (0, rv sa), (1, rv K.1), (2, rv R.1), (3, rv oc)] [] w := by
  obtain ⟨-, -, -, hLs⟩ := id hX
  obtain ⟨M, S, yo, sv, hC⟩ := id hI
  obtain ⟨hS, hR2, ho, hd, hd2, hd3, hcp⟩ := id hC
  refine x_aload_n Z dL_law_2081 rfl rfl ?_
  refine x_aload_n Z dL_law_2082 rfl rfl ?_
  refine x_iload Z dL_law_2083 rfl ?_
  refine x_iconst Z dL_law_2085 ?_
  refine x_iadd Z dL_law_2086 ?_
  refine x_sld Z hX (by omega) (by omega) dL_law_2087 (fun hz2087 => ?_)
  refine x_aload_n Z dL_law_2088 rfl rfl ?_
  refine x_callSH Z okL_back q989 q990 dL_law_2089 (c_L_back h0 htr hS (by assumption) ho hd) ⟨Nat.le_of_ble_eq_true rfl, Nat.le_of_ble_eq_true rfl, (by show _ + 1 ≤ 755723; omega), (by show _ + 6 ≤ 6834312; omega)⟩ rfl rfl (Nat.le_of_ble_eq_true rfl) (fun v9 w9 hR => ?_)
  obtain ⟨z5, rfl, hcl⟩ := hR
  obtain ⟨y5, hC9, hz5⟩ := hC.tq hcl
  have hC := hC9
  obtain ⟨hSk, hS, ho, hd, hd2, hd3, hcp⟩ := id hC
  simp only [Option.toList_some, Option.toList_none, List.cons_append, List.nil_append]
  refine x_istore (L' := [(5, _), (4, _), (0, _), (1, _), (2, _), (3, _)]) Z dL_law_2092 (Nat.le_of_ble_eq_true rfl) rfl ?_
  refine x_aload_n Z dL_law_2094 rfl rfl ?_
  refine x_aload_n Z dL_law_2095 rfl rfl ?_
  refine x_iload Z dL_law_2096 rfl ?_
  refine x_iconst Z dL_law_2098 ?_
  refine x_iadd Z dL_law_2099 ?_
  refine x_sld Z hX (by omega) (by omega) dL_law_2100 (fun hz2100 => ?_)
  refine x_callV (ci := 5) (C := RX4) (T := TX4) (N := 7) Z okX4_back q1345 q1346 q1347 rfl dL_law_2101 (c_X4_back h0 htr hS (by assumption)) hS.1 ⟨Nat.le_of_ble_eq_true rfl, Nat.le_of_ble_eq_true rfl, (by show _ + 0 ≤ 755723; omega), (by show _ + 0 ≤ 6834312; omega)⟩ rfl rfl (Nat.le_of_ble_eq_true rfl) (fun v9 w9 hR => ?_)
  obtain ⟨z6, T6, rfl, hS6, hf6, -⟩ := hR
  have hI := hC.ref hS6 hf6
  simp only [Option.toList_some, Option.toList_none, List.cons_append, List.nil_append]
  refine x_istore (L' := [(6, _), (5, _), (4, _), (0, _), (1, _), (2, _), (3, _)]) Z dL_law_2104 (Nat.le_of_ble_eq_true rfl) rfl ?_
  refine x_goto Z 2244 dL_law_2106 (by decide) ?_
  refine x_sub [2, 3, 4, 5, 6] rfl ?_
  refine x_wd (k' := k + 400) (n' := n + 40000) (by omega) (by omega) ?_
  exact join2244 _ hI
set_option maxRecDepth 100000 in
theorem arm_44 {b : gBt} {l : Launch} {s0 : State} {G : gK} (h0 : gS0 s0) (htr : l.stackTraces = false) (Z : gAm b l s0 G cL_law RL 7 room_1) {sa Ls : Nat} {xs : Nat → Int32} (hX : lX b s0 sa Ls xs) {k n : Nat} {K : kA} {R : rA} {oc : Nat} {w : wd} {i : Int} (hI : lI G w K R oc) (hi0 : 0 ≤ i) (hi4 : i + 4 ≤ Ls) (hk : k + 400 ≤ 755723) (hn : n + 40000 ≤ 6834312) (join2244 : ∀ w2 : wd, lI G w2 K R oc → gX b s0 G (k + 400) (n + 40000) 2244 [(4, iv i), (0, rv sa), (1, rv K.1), (2, rv R.1), (3, rv oc)] [] w2) : gX b s0 G k n 2109 [(4, iv i), (0, rv sa), (1, rv K.1), (2, rv R.1), (3, rv oc)] [] w := by
  obtain ⟨-, -, -, hLs⟩ := id hX
  obtain ⟨M, S, yo, sv, hC⟩ := id hI
  obtain ⟨hS, hR2, ho, hd, hd2, hd3, hcp⟩ := id hC
  refine x_aload_n Z dL_law_2109 rfl rfl ?_
  refine x_aload_n Z dL_law_2110 rfl rfl ?_
  refine x_iload Z dL_law_2111 rfl ?_
  refine x_iconst Z dL_law_2113 ?_
  refine x_iadd Z dL_law_2114 ?_
  refine x_sld Z hX (by omega) (by omega) dL_law_2115 (fun hz2115 => ?_)
  refine x_aload_n Z dL_law_2116 rfl rfl ?_
  refine x_callSH Z okL_fewest q997 q998 dL_law_2117 (c_L_fewest h0 htr hS (by assumption) ho hd) ⟨Nat.le_of_ble_eq_true rfl, Nat.le_of_ble_eq_true rfl, (by show _ + 1 ≤ 755723; omega), (by show _ + 6 ≤ 6834312; omega)⟩ rfl rfl (Nat.le_of_ble_eq_true rfl) (fun v9 w9 hR => ?_)
  obtain ⟨z5, rfl, hcl⟩ := hR
  obtain ⟨y5, hC9, hz5⟩ := hC.tq hcl
  have hC := hC9
  obtain ⟨hSk, hS, ho, hd, hd2, hd3, hcp⟩ := id hC
  simp only [Option.toList_some, Option.toList_none, List.cons_append, List.nil_append]
  refine x_istore (L' := [(5, _), (4, _), (0, _), (1, _), (2, _), (3, _)]) Z dL_law_2120 (Nat.le_of_ble_eq_true rfl) rfl ?_
  refine x_aload_n Z dL_law_2122 rfl rfl ?_
  refine x_aload_n Z dL_law_2123 rfl rfl ?_
  refine x_iload Z dL_law_2124 rfl ?_
  refine x_iconst Z dL_law_2126 ?_
  refine x_iadd Z dL_law_2127 ?_
  refine x_sld Z hX (by omega) (by omega) dL_law_2128 (fun hz2128 => ?_)
  refine x_callV (ci := 5) (C := RX4) (T := TX4) (N := 7) Z okX4_fewest q1353 q1354 q1355 rfl dL_law_2129 (c_X4_fewest h0 htr hS (by assumption)) hS.1 ⟨Nat.le_of_ble_eq_true rfl, Nat.le_of_ble_eq_true rfl, (by show _ + 1 ≤ 755723; omega), (by show _ + 31 ≤ 6834312; omega)⟩ rfl rfl (Nat.le_of_ble_eq_true rfl) (fun v9 w9 hR => ?_)
  obtain ⟨z6, T6, rfl, hS6, hf6, -⟩ := hR
  have hI := hC.ref hS6 hf6
  simp only [Option.toList_some, Option.toList_none, List.cons_append, List.nil_append]
  refine x_istore (L' := [(6, _), (5, _), (4, _), (0, _), (1, _), (2, _), (3, _)]) Z dL_law_2132 (Nat.le_of_ble_eq_true rfl) rfl ?_
  refine x_goto Z 2244 dL_law_2134 (by decide) ?_
  refine x_sub [2, 3, 4, 5, 6] rfl ?_
  refine x_wd (k' := k + 400) (n' := n + 40000) (by omega) (by omega) ?_
  exact join2244 _ hI
set_option maxRecDepth 100000 in
theorem arm_45 {b : gBt} {l : Launch} {s0 : State} {G : gK} (h0 : gS0 s0) (htr : l.stackTraces = false) (Z : gAm b l s0 G cL_law RL 7 room_1) {sa Ls : Nat} {xs : Nat → Int32} (hX : lX b s0 sa Ls xs) {k n : Nat} {K : kA} {R : rA} {oc : Nat} {w : wd} {i : Int} (hI : lI G w K R oc) (hi0 : 0 ≤ i) (hi4 : i + 4 ≤ Ls) (hk : k + 400 ≤ 755723) (hn : n + 40000 ≤ 6834312) (join2244 : ∀ w2 : wd, lI G w2 K R oc → gX b s0 G (k + 400) (n + 40000) 2244 [(4, iv i), (0, rv sa), (1, rv K.1), (2, rv R.1), (3, rv oc)] [] w2) : gX b s0 G k n 2137 [(4, iv i), (0, rv sa), (1, rv K.1), (2, rv R.1), (3, rv oc)] [] w := by
  obtain ⟨-, -, -, hLs⟩ := id hX
  obtain ⟨M, S, yo, sv, hC⟩ := id hI
  obtain ⟨hS, hR2, ho, hd, hd2, hd3, hcp⟩ := id hC
  refine x_aload_n Z dL_law_2137 rfl rfl ?_
  refine x_aload_n Z dL_law_2138 rfl rfl ?_
  refine x_iload Z dL_law_2139 rfl ?_
  refine x_iconst Z dL_law_2141 ?_
  refine x_iadd Z dL_law_2142 ?_
  refine x_sld Z hX (by omega) (by omega) dL_law_2143 (fun hz2143 => ?_)
  refine x_aload_n Z dL_law_2144 rfl rfl ?_
  refine x_iload Z dL_law_2145 rfl ?_
  refine x_iconst Z dL_law_2147 ?_
  refine x_iadd Z dL_law_2148 ?_
  refine x_sld Z hX (by omega) (by omega) dL_law_2149 (fun hz2149 => ?_)
  refine x_aload_n Z dL_law_2150 rfl rfl ?_
  refine x_callSH Z okL_parted q1005 q1006 dL_law_2151 (c_L_parted h0 htr hS (by assumption) (by assumption) ho hd) ⟨Nat.le_of_ble_eq_true rfl, Nat.le_of_ble_eq_true rfl, (by show _ + 2 ≤ 755723; omega), (by show _ + 12 ≤ 6834312; omega)⟩ rfl rfl (Nat.le_of_ble_eq_true rfl) (fun v9 w9 hR => ?_)
  obtain ⟨z5, rfl, hcl⟩ := hR
  obtain ⟨y5, hC9, hz5⟩ := hC.tq hcl
  have hC := hC9
  obtain ⟨hSk, hS, ho, hd, hd2, hd3, hcp⟩ := id hC
  simp only [Option.toList_some, Option.toList_none, List.cons_append, List.nil_append]
  refine x_istore (L' := [(5, _), (4, _), (0, _), (1, _), (2, _), (3, _)]) Z dL_law_2154 (Nat.le_of_ble_eq_true rfl) rfl ?_
  refine x_aload_n Z dL_law_2156 rfl rfl ?_
  refine x_aload_n Z dL_law_2157 rfl rfl ?_
  refine x_iload Z dL_law_2158 rfl ?_
  refine x_iconst Z dL_law_2160 ?_
  refine x_iadd Z dL_law_2161 ?_
  refine x_sld Z hX (by omega) (by omega) dL_law_2162 (fun hz2162 => ?_)
  refine x_aload_n Z dL_law_2163 rfl rfl ?_
  refine x_iload Z dL_law_2164 rfl ?_
  refine x_iconst Z dL_law_2166 ?_
  refine x_iadd Z dL_law_2167 ?_
  refine x_sld Z hX (by omega) (by omega) dL_law_2168 (fun hz2168 => ?_)
  refine x_callV (ci := 5) (C := RX4) (T := TX4) (N := 7) Z okX4_parted q1362 q1363 q1364 rfl dL_law_2169 (c_X4_parted h0 htr hS (by assumption) (by assumption)) hS.1 ⟨Nat.le_of_ble_eq_true rfl, Nat.le_of_ble_eq_true rfl, (by show _ + 0 ≤ 755723; omega), (by show _ + 0 ≤ 6834312; omega)⟩ rfl rfl (Nat.le_of_ble_eq_true rfl) (fun v9 w9 hR => ?_)
  obtain ⟨z6, T6, rfl, hS6, hf6, -⟩ := hR
  have hI := hC.ref hS6 hf6
  simp only [Option.toList_some, Option.toList_none, List.cons_append, List.nil_append]
  refine x_istore (L' := [(6, _), (5, _), (4, _), (0, _), (1, _), (2, _), (3, _)]) Z dL_law_2172 (Nat.le_of_ble_eq_true rfl) rfl ?_
  refine x_goto Z 2244 dL_law_2174 (by decide) ?_
  refine x_sub [2, 3, 4, 5, 6] rfl ?_
  refine x_wd (k' := k + 400) (n' := n + 40000) (by omega) (by omega) ?_
  exact join2244 _ hI
set_option maxRecDepth 100000 in
theorem arm_46 {b : gBt} {l : Launch} {s0 : State} {G : gK} (h0 : gS0 s0) (htr : l.stackTraces = false) (Z : gAm b l s0 G cL_law RL 7 room_1) {sa Ls : Nat} {xs : Nat → Int32} (hX : lX b s0 sa Ls xs) {k n : Nat} {K : kA} {R : rA} {oc : Nat} {w : wd} {i : Int} (hI : lI G w K R oc) (hi0 : 0 ≤ i) (hi4 : i + 4 ≤ Ls) (hk : k + 400 ≤ 755723) (hn : n + 40000 ≤ 6834312) (join2244 : ∀ w2 : wd, lI G w2 K R oc → gX b s0 G (k + 400) (n + 40000) 2244 [(4, iv i), (0, rv sa), (1, rv K.1), (2, rv R.1), (3, rv oc)] [] w2) : gX b s0 G k n 2177 [(4, iv i), (0, rv sa), (1, rv K.1), (2, rv R.1), (3, rv oc)] [] w := by
  obtain ⟨-, -, -, hLs⟩ := id hX
  obtain ⟨M, S, yo, sv, hC⟩ := id hI
  obtain ⟨hS, hR2, ho, hd, hd2, hd3, hcp⟩ := id hC
  refine x_aload_n Z dL_law_2177 rfl rfl ?_
  refine x_aload_n Z dL_law_2178 rfl rfl ?_
  refine x_iload Z dL_law_2179 rfl ?_
  refine x_iconst Z dL_law_2181 ?_
  refine x_iadd Z dL_law_2182 ?_
  refine x_sld Z hX (by omega) (by omega) dL_law_2183 (fun hz2183 => ?_)
  refine x_aload_n Z dL_law_2184 rfl rfl ?_
  refine x_callSH Z okL_house q1013 q1014 dL_law_2185 (c_L_house h0 htr hS (by assumption) ho hd) ⟨Nat.le_of_ble_eq_true rfl, Nat.le_of_ble_eq_true rfl, (by show _ + 1 ≤ 755723; omega), (by show _ + 6 ≤ 6834312; omega)⟩ rfl rfl (Nat.le_of_ble_eq_true rfl) (fun v9 w9 hR => ?_)
  obtain ⟨z5, rfl, hcl⟩ := hR
  obtain ⟨y5, hC9, hz5⟩ := hC.tq hcl
  have hC := hC9
  obtain ⟨hSk, hS, ho, hd, hd2, hd3, hcp⟩ := id hC
  simp only [Option.toList_some, Option.toList_none, List.cons_append, List.nil_append]
  refine x_istore (L' := [(5, _), (4, _), (0, _), (1, _), (2, _), (3, _)]) Z dL_law_2188 (Nat.le_of_ble_eq_true rfl) rfl ?_
  refine x_aload_n Z dL_law_2190 rfl rfl ?_
  refine x_aload_n Z dL_law_2191 rfl rfl ?_
  refine x_iload Z dL_law_2192 rfl ?_
  refine x_iconst Z dL_law_2194 ?_
  refine x_iadd Z dL_law_2195 ?_
  refine x_sld Z hX (by omega) (by omega) dL_law_2196 (fun hz2196 => ?_)
  refine x_callV (ci := 5) (C := RX4) (T := TX4) (N := 7) Z okX4_house q1370 q1371 q1372 rfl dL_law_2197 (c_X4_house h0 htr hS (by assumption)) hS.1 ⟨Nat.le_of_ble_eq_true rfl, Nat.le_of_ble_eq_true rfl, (by show _ + 0 ≤ 755723; omega), (by show _ + 0 ≤ 6834312; omega)⟩ rfl rfl (Nat.le_of_ble_eq_true rfl) (fun v9 w9 hR => ?_)
  obtain ⟨z6, T6, rfl, hS6, hf6, -⟩ := hR
  have hI := hC.ref hS6 hf6
  simp only [Option.toList_some, Option.toList_none, List.cons_append, List.nil_append]
  refine x_istore (L' := [(6, _), (5, _), (4, _), (0, _), (1, _), (2, _), (3, _)]) Z dL_law_2200 (Nat.le_of_ble_eq_true rfl) rfl ?_
  refine x_goto Z 2244 dL_law_2202 (by decide) ?_
  refine x_sub [2, 3, 4, 5, 6] rfl ?_
  refine x_wd (k' := k + 400) (n' := n + 40000) (by omega) (by omega) ?_
  exact join2244 _ hI
set_option maxRecDepth 100000 in
theorem arm_47 {b : gBt} {l : Launch} {s0 : State} {G : gK} (h0 : gS0 s0) (htr : l.stackTraces = false) (Z : gAm b l s0 G cL_law RL 7 room_1) {sa Ls : Nat} {xs : Nat → Int32} (hX : lX b s0 sa Ls xs) {k n : Nat} {K : kA} {R : rA} {oc : Nat} {w : wd} {i : Int} (hI : lI G w K R oc) (hi0 : 0 ≤ i) (hi4 : i + 4 ≤ Ls) (hk : k + 400 ≤ 755723) (hn : n + 40000 ≤ 6834312) (join2244 : ∀ w2 : wd, lI G w2 K R oc → gX b s0 G (k + 400) (n + 40000) 2244 [(4, iv i), (0, rv sa), (1, rv K.1), (2, rv R.1), (3, rv oc)] [] w2) : gX b s0 G k n 2205 [(4, iv i), (0, rv sa), (1, rv K.1), (2, rv R.1), (3, rv oc)] [] w := by
  obtain ⟨-, -, -, hLs⟩ := id hX
  obtain ⟨M, S, yo, sv, hC⟩ := id hI
  obtain ⟨hS, hR2, ho, hd, hd2, hd3, hcp⟩ := id hC
  refine x_aload_n Z dL_law_2205 rfl rfl ?_
  refine x_callV (ci := 3) (C := RX2) (T := TX2) (N := 4) Z okX2_knock q97 q98 q99 rfl dL_law_2206 (c_X2_knock h0 htr hS) hS.1 ⟨Nat.le_of_ble_eq_true rfl, Nat.le_of_ble_eq_true rfl, (by show _ + 0 ≤ 755723; omega), (by show _ + 0 ≤ 6834312; omega)⟩ rfl rfl (Nat.le_of_ble_eq_true rfl) (fun v9 w9 hR => ?_)
  obtain ⟨rfl, hS5, hf5⟩ := hR
  obtain ⟨hR5, ho5⟩ := hC.clk hS5 hf5
  simp only [Option.toList_some, Option.toList_none, List.cons_append, List.nil_append]
  refine x_pop Z dL_law_2209 rfl ?_
  refine x_aload_n Z dL_law_2210 rfl rfl ?_
  refine x_callV (ci := 5) (C := RX4) (T := TX4) (N := 7) Z okX4_knock q1378 q1379 q1380 rfl dL_law_2211 (c_X4_knock h0 htr hR5) hR5.1 ⟨Nat.le_of_ble_eq_true rfl, Nat.le_of_ble_eq_true rfl, (by show _ + 0 ≤ 755723; omega), (by show _ + 0 ≤ 6834312; omega)⟩ rfl rfl (Nat.le_of_ble_eq_true rfl) (fun v9 w9 hR => ?_)
  obtain ⟨rfl, hS6, hf6⟩ := hR
  have hI : lI G w9 K R oc := lC.rfk hS5 ho5 hd hd2 hd3 hS6 ⟨hcp.1, hcp.2.1, hcp.2.2.1, by show M.2.2.2.2 + 1 = S.2.2.2.2.2.1 + 1; rw [hcp.2.2.2]⟩ hf6 (fun q hq => Or.inl hq)
  simp only [Option.toList_some, Option.toList_none, List.cons_append, List.nil_append]
  refine x_pop Z dL_law_2214 rfl ?_
  refine x_goto Z 2244 dL_law_2215 (by decide) ?_
  refine x_wd (k' := k + 400) (n' := n + 40000) (by omega) (by omega) ?_
  exact join2244 _ hI
set_option maxRecDepth 100000 in
theorem arm_48 {b : gBt} {l : Launch} {s0 : State} {G : gK} (h0 : gS0 s0) (htr : l.stackTraces = false) (Z : gAm b l s0 G cL_law RL 7 room_1) {sa Ls : Nat} {xs : Nat → Int32} (hX : lX b s0 sa Ls xs) {k n : Nat} {K : kA} {R : rA} {oc : Nat} {w : wd} {i : Int} (hI : lI G w K R oc) (hi0 : 0 ≤ i) (hi4 : i + 4 ≤ Ls) (hk : k + 400 ≤ 755723) (hn : n + 40000 ≤ 6834312) (join2244 : ∀ w2 : wd, lI G w2 K R oc → gX b s0 G (k + 400) (n + 40000) 2244 [(4, iv i), (0, rv sa), (1, rv K.1), (2, rv R.1), (3, rv oc)] [] w2) : gX b s0 G k n 2218 [(4, iv i), (0, rv sa), (1, rv K.1), (2, rv R.1), (3, rv oc)] [] w := by
  obtain ⟨-, -, -, hLs⟩ := id hX
  obtain ⟨M, S, yo, sv, hC⟩ := id hI
  obtain ⟨hS, hR2, ho, hd, hd2, hd3, hcp⟩ := id hC
  refine x_aload_n Z dL_law_2218 rfl rfl ?_
  refine x_callV (ci := 3) (C := RX2) (T := TX2) (N := 4) Z okX2_isSound q101 q102 q103 rfl dL_law_2219 (c_X2_isSound h0 htr hS) hS.1 ⟨Nat.le_of_ble_eq_true rfl, Nat.le_of_ble_eq_true rfl, (by show _ + 0 ≤ 755723; omega), (by show _ + 0 ≤ 6834312; omega)⟩ rfl rfl (Nat.le_of_ble_eq_true rfl) (fun v9 w9 hR => ?_)
  obtain ⟨q5, rfl, hq5, hS5, hf5⟩ := hR
  obtain ⟨y5, sv5, hC9⟩ := hC.cls ⟨yo, sv, hS5, (hC.clk hS5 hf5).2, hf5.mono (fun _ h => Or.inl h)⟩
  have hC := hC9
  obtain ⟨hSk, hS, ho, hd, hd2, hd3, hcp⟩ := id hC
  simp only [Option.toList_some, Option.toList_none, List.cons_append, List.nil_append]
  refine x_pop Z dL_law_2222 rfl ?_
  refine x_aload_n Z dL_law_2223 rfl rfl ?_
  refine x_callV (ci := 5) (C := RX4) (T := TX4) (N := 7) Z okX4_isSound q1382 q1383 q1384 rfl dL_law_2224 (c_X4_isSound h0 htr hS) hS.1 ⟨Nat.le_of_ble_eq_true rfl, Nat.le_of_ble_eq_true rfl, (by show _ + 3 ≤ 755723; omega), (by show _ + 93 ≤ 6834312; omega)⟩ rfl rfl (Nat.le_of_ble_eq_true rfl) (fun v9 w9 hR => ?_)
  obtain ⟨q6, rfl, hq6, T6, hS6, hf6⟩ := hR
  have hI := hC.ref hS6 hf6
  have hqq := cq_snd hcp hSk hq5 hq6
  simp only [Option.toList_some, Option.toList_none, List.cons_append, List.nil_append]
  refine x_pop Z dL_law_2227 rfl ?_
  refine x_goto Z 2244 dL_law_2228 (by decide) ?_
  refine x_wd (k' := k + 400) (n' := n + 40000) (by omega) (by omega) ?_
  exact join2244 _ hI
set_option maxRecDepth 100000 in
theorem arm_49 {b : gBt} {l : Launch} {s0 : State} {G : gK} (h0 : gS0 s0) (htr : l.stackTraces = false) (Z : gAm b l s0 G cL_law RL 7 room_1) {sa Ls : Nat} {xs : Nat → Int32} (hX : lX b s0 sa Ls xs) {k n : Nat} {K : kA} {R : rA} {oc : Nat} {w : wd} {i : Int} (hI : lI G w K R oc) (hi0 : 0 ≤ i) (hi4 : i + 4 ≤ Ls) (hk : k + 400 ≤ 755723) (hn : n + 40000 ≤ 6834312) (join2244 : ∀ w2 : wd, lI G w2 K R oc → gX b s0 G (k + 400) (n + 40000) 2244 [(4, iv i), (0, rv sa), (1, rv K.1), (2, rv R.1), (3, rv oc)] [] w2) : gX b s0 G k n 2231 [(4, iv i), (0, rv sa), (1, rv K.1), (2, rv R.1), (3, rv oc)] [] w := by
  obtain ⟨-, -, -, hLs⟩ := id hX
  obtain ⟨M, S, yo, sv, hC⟩ := id hI
  obtain ⟨hS, hR2, ho, hd, hd2, hd3, hcp⟩ := id hC
  refine x_aload_n Z dL_law_2231 rfl rfl ?_
  refine x_callV (ci := 3) (C := RX2) (T := TX2) (N := 4) Z okX2_digest q187 q188 q189 rfl dL_law_2232 (c_X2_digest h0 htr hS) hS.1 ⟨Nat.le_of_ble_eq_true rfl, Nat.le_of_ble_eq_true rfl, (by show _ + 5 ≤ 755723; omega), (by show _ + 30 ≤ 6834312; omega)⟩ rfl rfl (Nat.le_of_ble_eq_true rfl) (fun v9 w9 hR => ?_)
  obtain ⟨⟨q5, rfl, hq5⟩, hS5, hf5⟩ := hR
  obtain ⟨y5, sv5, hC9⟩ := hC.cls ⟨yo, sv, hS5, (hC.clk hS5 hf5).2, hf5.mono (fun _ h => Or.inl h)⟩
  have hC := hC9
  obtain ⟨hSk, hS, ho, hd, hd2, hd3, hcp⟩ := id hC
  simp only [Option.toList_some, Option.toList_none, List.cons_append, List.nil_append]
  refine x_pop2_2 Z dL_law_2235 rfl ?_
  refine x_aload_n Z dL_law_2236 rfl rfl ?_
  refine x_callV (ci := 5) (C := RX4) (T := TX4) (N := 7) Z okX4_digest q1391 q1392 q1393 rfl dL_law_2237 (c_X4_digest h0 htr hS) hS.1 ⟨Nat.le_of_ble_eq_true rfl, Nat.le_of_ble_eq_true rfl, (by show _ + 6 ≤ 755723; omega), (by show _ + 186 ≤ 6834312; omega)⟩ rfl rfl (Nat.le_of_ble_eq_true rfl) (fun v9 w9 hR => ?_)
  obtain ⟨⟨q6, rfl, hq6⟩, T6, hS6, hf6⟩ := hR
  have hI := hC.ref hS6 hf6
  have hqq := cq_snd hcp hSk hq5 hq6
  simp only [Option.toList_some, Option.toList_none, List.cons_append, List.nil_append]
  refine x_pop2_2 Z dL_law_2240 rfl ?_
  refine x_goto Z 2244 dL_law_2241 (by decide) ?_
  refine x_wd (k' := k + 400) (n' := n + 40000) (by omega) (by omega) ?_
  exact join2244 _ hI
