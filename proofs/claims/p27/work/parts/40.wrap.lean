/-! wrap: walks, by program -/
theorem q228 : Cond.castable "java/lang/IllegalArgumentException" "java/lang/IllegalArgumentException" ∈ gT := gt_1 193 rfl rfl
theorem q297 : Cond.fieldLinkNest RL 13 "KindcutterLaw$Out" "n" "J" "KindcutterLaw" ∈ gT := gt_2 22 rfl rfl
theorem q298 : Cond.fieldLinkNest RL 112 "KindcutterLaw$Out" "s" "Ljava/lang/String;" "KindcutterLaw" ∈ gT := gt_2 23 rfl rfl
theorem q307 : Cond.classLink RL 19 "java/lang/IndexOutOfBoundsException" ∈ gT := gt_2 32 rfl rfl
theorem q308 : Cond.classLink RL 21 "java/lang/IllegalArgumentException" ∈ gT := gt_2 33 rfl rfl
theorem q309 : Cond.methodLink RL 7 yX2_add ∈ gT := gt_2 34 rfl rfl
theorem q310 : Cond.instanceMethod yX2_add ∈ gT := gt_2 35 rfl rfl
theorem q311 : Cond.selects RX2 yX2_add yX2_add ∈ gT := gt_2 36 rfl rfl
theorem q312 : Cond.code yX2_add cX2_add 4 (some .int) ∈ gT := gt_2 37 rfl rfl
theorem q319 : Cond.castable "java/lang/IndexOutOfBoundsException" "java/lang/IndexOutOfBoundsException" ∈ gT := gt_2 44 rfl rfl
theorem q358 : Cond.methodLink RL 23 yX2_put ∈ gT := gt_2 83 rfl rfl
theorem q359 : Cond.instanceMethod yX2_put ∈ gT := gt_2 84 rfl rfl
theorem q360 : Cond.selects RX2 yX2_put yX2_put ∈ gT := gt_2 85 rfl rfl
theorem q361 : Cond.code yX2_put cX2_put 6 (some .int) ∈ gT := gt_2 86 rfl rfl
theorem q370 : Cond.methodLink RL 27 yX2_insert ∈ gT := gt_2 95 rfl rfl
theorem q371 : Cond.instanceMethod yX2_insert ∈ gT := gt_2 96 rfl rfl
theorem q372 : Cond.selects RX2 yX2_insert yX2_insert ∈ gT := gt_2 97 rfl rfl
theorem q373 : Cond.code yX2_insert cX2_insert 5 (some .int) ∈ gT := gt_2 98 rfl rfl
theorem q377 : Cond.methodLink RL 30 yX2_drop ∈ gT := gt_2 102 rfl rfl
theorem q378 : Cond.instanceMethod yX2_drop ∈ gT := gt_2 103 rfl rfl
theorem q379 : Cond.selects RX2 yX2_drop yX2_drop ∈ gT := gt_2 104 rfl rfl
theorem q380 : Cond.code yX2_drop cX2_drop 5 (some .int) ∈ gT := gt_2 105 rfl rfl
theorem q392 : Cond.methodLink RL 33 yX2_clear ∈ gT := gt_2 117 rfl rfl
theorem q393 : Cond.instanceMethod yX2_clear ∈ gT := gt_2 118 rfl rfl
theorem q394 : Cond.selects RX2 yX2_clear yX2_clear ∈ gT := gt_2 119 rfl rfl
theorem q395 : Cond.code yX2_clear cX2_clear 2 (some .int) ∈ gT := gt_2 120 rfl rfl
theorem q399 : Cond.methodLink RL 37 yX2_copy ∈ gT := gt_2 124 rfl rfl
theorem q400 : Cond.instanceMethod yX2_copy ∈ gT := gt_2 125 rfl rfl
theorem q401 : Cond.selects RX2 yX2_copy yX2_copy ∈ gT := gt_2 126 rfl rfl
theorem q402 : Cond.code yX2_copy cX2_copy 5 (some .int) ∈ gT := gt_2 127 rfl rfl
theorem q410 : Cond.methodLink RL 40 yX2_join ∈ gT := gt_2 135 rfl rfl
theorem q411 : Cond.instanceMethod yX2_join ∈ gT := gt_2 136 rfl rfl
theorem q412 : Cond.selects RX2 yX2_join yX2_join ∈ gT := gt_2 137 rfl rfl
theorem q413 : Cond.code yX2_join cX2_join 5 (some .int) ∈ gT := gt_2 138 rfl rfl
theorem q421 : Cond.methodLink RL 43 yX2_turn ∈ gT := gt_2 146 rfl rfl
theorem q422 : Cond.instanceMethod yX2_turn ∈ gT := gt_2 147 rfl rfl
theorem q423 : Cond.selects RX2 yX2_turn yX2_turn ∈ gT := gt_2 148 rfl rfl
theorem q424 : Cond.code yX2_turn cX2_turn 2 (some .int) ∈ gT := gt_2 149 rfl rfl
theorem q432 : Cond.methodLink RL 46 yX2_fill ∈ gT := gt_2 157 rfl rfl
theorem q433 : Cond.instanceMethod yX2_fill ∈ gT := gt_2 158 rfl rfl
theorem q434 : Cond.selects RX2 yX2_fill yX2_fill ∈ gT := gt_2 159 rfl rfl
theorem q435 : Cond.code yX2_fill cX2_fill 7 (some .int) ∈ gT := gt_2 160 rfl rfl
theorem q439 : Cond.methodLink RL 49 yX2_cut ∈ gT := gt_2 164 rfl rfl
theorem q440 : Cond.instanceMethod yX2_cut ∈ gT := gt_2 165 rfl rfl
theorem q441 : Cond.selects RX2 yX2_cut yX2_cut ∈ gT := gt_2 166 rfl rfl
theorem q442 : Cond.code yX2_cut cX2_cut 5 (some .int) ∈ gT := gt_2 167 rfl rfl
theorem q446 : Cond.methodLink RL 52 yX2_keep ∈ gT := gt_2 171 rfl rfl
theorem q447 : Cond.instanceMethod yX2_keep ∈ gT := gt_2 172 rfl rfl
theorem q448 : Cond.selects RX2 yX2_keep yX2_keep ∈ gT := gt_2 173 rfl rfl
theorem q449 : Cond.code yX2_keep cX2_keep 5 (some .int) ∈ gT := gt_2 174 rfl rfl
theorem q460 : Cond.methodLink RL 56 yX2_keepKind ∈ gT := gt_2 185 rfl rfl
theorem q461 : Cond.instanceMethod yX2_keepKind ∈ gT := gt_2 186 rfl rfl
theorem q462 : Cond.selects RX2 yX2_keepKind yX2_keepKind ∈ gT := gt_2 187 rfl rfl
theorem q463 : Cond.code yX2_keepKind cX2_keepKind 5 (some .int) ∈ gT := gt_2 188 rfl rfl
theorem q474 : Cond.methodLink RL 59 yX2_take ∈ gT := gt_2 199 rfl rfl
theorem q475 : Cond.instanceMethod yX2_take ∈ gT := gt_2 200 rfl rfl
theorem q476 : Cond.selects RX2 yX2_take yX2_take ∈ gT := gt_2 201 rfl rfl
theorem q477 : Cond.code yX2_take cX2_take 7 (some .int) ∈ gT := gt_2 202 rfl rfl
theorem q489 : Cond.methodLink RL 62 yX2_mend ∈ gT := gt_2 214 rfl rfl
theorem q490 : Cond.instanceMethod yX2_mend ∈ gT := gt_2 215 rfl rfl
theorem q491 : Cond.selects RX2 yX2_mend yX2_mend ∈ gT := gt_2 216 rfl rfl
theorem q492 : Cond.code yX2_mend cX2_mend 5 (some .int) ∈ gT := gt_2 217 rfl rfl
theorem q497 : Cond.methodLink RL 65 yX2_kind ∈ gT := gt_2 222 rfl rfl
theorem q498 : Cond.instanceMethod yX2_kind ∈ gT := gt_2 223 rfl rfl
theorem q499 : Cond.selects RX2 yX2_kind yX2_kind ∈ gT := gt_2 224 rfl rfl
theorem q500 : Cond.code yX2_kind cX2_kind 2 (some .int) ∈ gT := gt_2 225 rfl rfl
theorem q504 : Cond.methodLink RL 68 yX2_ask ∈ gT := gt_2 229 rfl rfl
theorem q505 : Cond.instanceMethod yX2_ask ∈ gT := gt_2 230 rfl rfl
theorem q506 : Cond.selects RX2 yX2_ask yX2_ask ∈ gT := gt_2 231 rfl rfl
theorem q507 : Cond.code yX2_ask cX2_ask 3 (some .boolean) ∈ gT := gt_2 232 rfl rfl
theorem q512 : Cond.methodLink RL 72 yX2_all ∈ gT := gt_2 237 rfl rfl
theorem q513 : Cond.instanceMethod yX2_all ∈ gT := gt_2 238 rfl rfl
theorem q514 : Cond.selects RX2 yX2_all yX2_all ∈ gT := gt_2 239 rfl rfl
theorem q515 : Cond.code yX2_all cX2_all 4 (some .int) ∈ gT := gt_3 0 rfl rfl
theorem q519 : Cond.methodLink RL 75 yX2_nth ∈ gT := gt_3 4 rfl rfl
theorem q520 : Cond.instanceMethod yX2_nth ∈ gT := gt_3 5 rfl rfl
theorem q521 : Cond.selects RX2 yX2_nth yX2_nth ∈ gT := gt_3 6 rfl rfl
theorem q522 : Cond.code yX2_nth cX2_nth 5 (some .int) ∈ gT := gt_3 7 rfl rfl
theorem q526 : Cond.methodLink RL 78 yX2_next ∈ gT := gt_3 11 rfl rfl
theorem q527 : Cond.instanceMethod yX2_next ∈ gT := gt_3 12 rfl rfl
theorem q528 : Cond.selects RX2 yX2_next yX2_next ∈ gT := gt_3 13 rfl rfl
theorem q529 : Cond.code yX2_next cX2_next 5 (some .int) ∈ gT := gt_3 14 rfl rfl
theorem q533 : Cond.methodLink RL 81 yX2_run ∈ gT := gt_3 18 rfl rfl
theorem q534 : Cond.instanceMethod yX2_run ∈ gT := gt_3 19 rfl rfl
theorem q535 : Cond.selects RX2 yX2_run yX2_run ∈ gT := gt_3 20 rfl rfl
theorem q536 : Cond.code yX2_run cX2_run 5 (some .int) ∈ gT := gt_3 21 rfl rfl
theorem q540 : Cond.methodLink RL 84 yX2_ofKind ∈ gT := gt_3 25 rfl rfl
theorem q541 : Cond.instanceMethod yX2_ofKind ∈ gT := gt_3 26 rfl rfl
theorem q542 : Cond.selects RX2 yX2_ofKind yX2_ofKind ∈ gT := gt_3 27 rfl rfl
theorem q543 : Cond.code yX2_ofKind cX2_ofKind 6 (some .int) ∈ gT := gt_3 28 rfl rfl
theorem q550 : Cond.methodLink RL 87 yX2_ofQuestion ∈ gT := gt_3 35 rfl rfl
theorem q551 : Cond.instanceMethod yX2_ofQuestion ∈ gT := gt_3 36 rfl rfl
theorem q552 : Cond.selects RX2 yX2_ofQuestion yX2_ofQuestion ∈ gT := gt_3 37 rfl rfl
theorem q553 : Cond.code yX2_ofQuestion cX2_ofQuestion 6 (some .int) ∈ gT := gt_3 38 rfl rfl
theorem q557 : Cond.methodLink RL 90 yX2_kinds ∈ gT := gt_3 42 rfl rfl
theorem q558 : Cond.instanceMethod yX2_kinds ∈ gT := gt_3 43 rfl rfl
theorem q559 : Cond.selects RX2 yX2_kinds yX2_kinds ∈ gT := gt_3 44 rfl rfl
theorem q560 : Cond.code yX2_kinds cX2_kinds 5 (some .int) ∈ gT := gt_3 45 rfl rfl
theorem q564 : Cond.methodLink RL 93 yX2_both ∈ gT := gt_3 49 rfl rfl
theorem q565 : Cond.instanceMethod yX2_both ∈ gT := gt_3 50 rfl rfl
theorem q566 : Cond.selects RX2 yX2_both yX2_both ∈ gT := gt_3 51 rfl rfl
theorem q567 : Cond.code yX2_both cX2_both 5 (some .int) ∈ gT := gt_3 52 rfl rfl
theorem q571 : Cond.methodLink RL 96 yX2_within ∈ gT := gt_3 56 rfl rfl
theorem q572 : Cond.instanceMethod yX2_within ∈ gT := gt_3 57 rfl rfl
theorem q573 : Cond.selects RX2 yX2_within yX2_within ∈ gT := gt_3 58 rfl rfl
theorem q574 : Cond.code yX2_within cX2_within 4 (some .boolean) ∈ gT := gt_3 59 rfl rfl
theorem q578 : Cond.methodLink RL 99 yX2_differ ∈ gT := gt_3 63 rfl rfl
theorem q579 : Cond.instanceMethod yX2_differ ∈ gT := gt_3 64 rfl rfl
theorem q580 : Cond.selects RX2 yX2_differ yX2_differ ∈ gT := gt_3 65 rfl rfl
theorem q581 : Cond.code yX2_differ cX2_differ 5 (some .int) ∈ gT := gt_3 66 rfl rfl
theorem q585 : Cond.methodLink RL 102 yX2_length ∈ gT := gt_3 70 rfl rfl
theorem q586 : Cond.instanceMethod yX2_length ∈ gT := gt_3 71 rfl rfl
theorem q587 : Cond.selects RX2 yX2_length yX2_length ∈ gT := gt_3 72 rfl rfl
theorem q588 : Cond.code yX2_length cX2_length 2 (some .int) ∈ gT := gt_3 73 rfl rfl
theorem q592 : Cond.methodLink RL 105 yX2_sign ∈ gT := gt_3 77 rfl rfl
theorem q593 : Cond.instanceMethod yX2_sign ∈ gT := gt_3 78 rfl rfl
theorem q594 : Cond.selects RX2 yX2_sign yX2_sign ∈ gT := gt_3 79 rfl rfl
theorem q595 : Cond.code yX2_sign cX2_sign 4 (some .int) ∈ gT := gt_3 80 rfl rfl
theorem q599 : Cond.methodLink RL 108 yX2_signs ∈ gT := gt_3 84 rfl rfl
theorem q600 : Cond.instanceMethod yX2_signs ∈ gT := gt_3 85 rfl rfl
theorem q601 : Cond.selects RX2 yX2_signs yX2_signs ∈ gT := gt_3 86 rfl rfl
theorem q602 : Cond.code yX2_signs cX2_signs 5 (some (.object "java/lang/String")) ∈ gT := gt_3 87 rfl rfl
theorem q883 : Cond.methodLink RL 116 yX2_kindsOf ∈ gT := gt_4 128 rfl rfl
theorem q884 : Cond.instanceMethod yX2_kindsOf ∈ gT := gt_4 129 rfl rfl
theorem q885 : Cond.selects RX2 yX2_kindsOf yX2_kindsOf ∈ gT := gt_4 130 rfl rfl
theorem q886 : Cond.code yX2_kindsOf cX2_kindsOf 5 (some (.object "java/lang/String")) ∈ gT := gt_4 131 rfl rfl
theorem q891 : Cond.methodLink RL 119 yX2_count ∈ gT := gt_4 136 rfl rfl
theorem q892 : Cond.instanceMethod yX2_count ∈ gT := gt_4 137 rfl rfl
theorem q893 : Cond.selects RX2 yX2_count yX2_count ∈ gT := gt_4 138 rfl rfl
theorem q894 : Cond.code yX2_count cX2_count 4 (some .int) ∈ gT := gt_4 139 rfl rfl
theorem q899 : Cond.methodLink RL 122 yX2_countKind ∈ gT := gt_4 144 rfl rfl
theorem q900 : Cond.instanceMethod yX2_countKind ∈ gT := gt_4 145 rfl rfl
theorem q901 : Cond.selects RX2 yX2_countKind yX2_countKind ∈ gT := gt_4 146 rfl rfl
theorem q902 : Cond.code yX2_countKind cX2_countKind 4 (some .int) ∈ gT := gt_4 147 rfl rfl
theorem q906 : Cond.methodLink RL 125 yX2_isAll ∈ gT := gt_4 151 rfl rfl
theorem q907 : Cond.instanceMethod yX2_isAll ∈ gT := gt_4 152 rfl rfl
theorem q908 : Cond.selects RX2 yX2_isAll yX2_isAll ∈ gT := gt_4 153 rfl rfl
theorem q909 : Cond.code yX2_isAll cX2_isAll 4 (some .boolean) ∈ gT := gt_4 154 rfl rfl
theorem q913 : Cond.methodLink RL 128 yX2_first ∈ gT := gt_4 158 rfl rfl
theorem q914 : Cond.instanceMethod yX2_first ∈ gT := gt_4 159 rfl rfl
theorem q915 : Cond.selects RX2 yX2_first yX2_first ∈ gT := gt_4 160 rfl rfl
theorem q916 : Cond.code yX2_first cX2_first 7 (some .int) ∈ gT := gt_4 161 rfl rfl
theorem q920 : Cond.methodLink RL 131 yX2_alike ∈ gT := gt_4 165 rfl rfl
theorem q921 : Cond.instanceMethod yX2_alike ∈ gT := gt_4 166 rfl rfl
theorem q922 : Cond.selects RX2 yX2_alike yX2_alike ∈ gT := gt_4 167 rfl rfl
theorem q923 : Cond.code yX2_alike cX2_alike 6 (some .boolean) ∈ gT := gt_4 168 rfl rfl
theorem q927 : Cond.methodLink RL 134 yX2_isName ∈ gT := gt_4 172 rfl rfl
theorem q928 : Cond.instanceMethod yX2_isName ∈ gT := gt_4 173 rfl rfl
theorem q929 : Cond.selects RX2 yX2_isName yX2_isName ∈ gT := gt_4 174 rfl rfl
theorem q930 : Cond.code yX2_isName cX2_isName 2 (some .boolean) ∈ gT := gt_4 175 rfl rfl
theorem q934 : Cond.methodLink RL 138 yX2_fault ∈ gT := gt_4 179 rfl rfl
theorem q935 : Cond.instanceMethod yX2_fault ∈ gT := gt_4 180 rfl rfl
theorem q936 : Cond.selects RX2 yX2_fault yX2_fault ∈ gT := gt_4 181 rfl rfl
theorem q937 : Cond.code yX2_fault cX2_fault 2 (some .int) ∈ gT := gt_4 182 rfl rfl
theorem q942 : Cond.methodLink RL 141 yX2_sort ∈ gT := gt_4 187 rfl rfl
theorem q943 : Cond.instanceMethod yX2_sort ∈ gT := gt_4 188 rfl rfl
theorem q944 : Cond.selects RX2 yX2_sort yX2_sort ∈ gT := gt_4 189 rfl rfl
theorem q945 : Cond.code yX2_sort cX2_sort 5 (some .int) ∈ gT := gt_4 190 rfl rfl
theorem q953 : Cond.methodLink RL 144 yX2_longest ∈ gT := gt_4 198 rfl rfl
theorem q954 : Cond.instanceMethod yX2_longest ∈ gT := gt_4 199 rfl rfl
theorem q955 : Cond.selects RX2 yX2_longest yX2_longest ∈ gT := gt_4 200 rfl rfl
theorem q956 : Cond.code yX2_longest cX2_longest 4 (some .int) ∈ gT := gt_4 201 rfl rfl
theorem q960 : Cond.methodLink RL 147 yX2_pieces ∈ gT := gt_4 205 rfl rfl
theorem q961 : Cond.instanceMethod yX2_pieces ∈ gT := gt_4 206 rfl rfl
theorem q962 : Cond.selects RX2 yX2_pieces yX2_pieces ∈ gT := gt_4 207 rfl rfl
theorem q963 : Cond.code yX2_pieces cX2_pieces 2 (some .int) ∈ gT := gt_4 208 rfl rfl
theorem q968 : Cond.methodLink RL 150 yX2_piece ∈ gT := gt_4 213 rfl rfl
theorem q969 : Cond.instanceMethod yX2_piece ∈ gT := gt_4 214 rfl rfl
theorem q970 : Cond.selects RX2 yX2_piece yX2_piece ∈ gT := gt_4 215 rfl rfl
theorem q971 : Cond.code yX2_piece cX2_piece 6 (some .int) ∈ gT := gt_4 216 rfl rfl
theorem q976 : Cond.methodLink RL 153 yX2_sorts ∈ gT := gt_4 221 rfl rfl
theorem q977 : Cond.instanceMethod yX2_sorts ∈ gT := gt_4 222 rfl rfl
theorem q978 : Cond.selects RX2 yX2_sorts yX2_sorts ∈ gT := gt_4 223 rfl rfl
theorem q979 : Cond.code yX2_sorts cX2_sorts 6 (some (.object "java/lang/String")) ∈ gT := gt_4 224 rfl rfl
theorem q984 : Cond.methodLink RL 156 yX2_cuts ∈ gT := gt_4 229 rfl rfl
theorem q985 : Cond.instanceMethod yX2_cuts ∈ gT := gt_4 230 rfl rfl
theorem q986 : Cond.selects RX2 yX2_cuts yX2_cuts ∈ gT := gt_4 231 rfl rfl
theorem q987 : Cond.code yX2_cuts cX2_cuts 2 (some .int) ∈ gT := gt_4 232 rfl rfl
theorem q992 : Cond.methodLink RL 159 yX2_back ∈ gT := gt_4 237 rfl rfl
theorem q993 : Cond.instanceMethod yX2_back ∈ gT := gt_4 238 rfl rfl
theorem q994 : Cond.selects RX2 yX2_back yX2_back ∈ gT := gt_4 239 rfl rfl
theorem q995 : Cond.code yX2_back cX2_back 2 (some .int) ∈ gT := gt_5 0 rfl rfl
theorem q1000 : Cond.methodLink RL 162 yX2_fewest ∈ gT := gt_5 5 rfl rfl
theorem q1001 : Cond.instanceMethod yX2_fewest ∈ gT := gt_5 6 rfl rfl
theorem q1002 : Cond.selects RX2 yX2_fewest yX2_fewest ∈ gT := gt_5 7 rfl rfl
theorem q1003 : Cond.code yX2_fewest cX2_fewest 2 (some .int) ∈ gT := gt_5 8 rfl rfl
theorem q1008 : Cond.methodLink RL 165 yX2_parted ∈ gT := gt_5 13 rfl rfl
theorem q1009 : Cond.instanceMethod yX2_parted ∈ gT := gt_5 14 rfl rfl
theorem q1010 : Cond.selects RX2 yX2_parted yX2_parted ∈ gT := gt_5 15 rfl rfl
theorem q1011 : Cond.code yX2_parted cX2_parted 4 (some .int) ∈ gT := gt_5 16 rfl rfl
theorem q1016 : Cond.methodLink RL 168 yX2_house ∈ gT := gt_5 21 rfl rfl
theorem okX2_add : gOk yX2_add cX2_add 4 (some .int) 2 := ⟨q312, q36, ⟨by decide +kernel, by decide +kernel⟩, by decide +kernel⟩
theorem okX2_alike : gOk yX2_alike cX2_alike 6 (some .boolean) 2 := ⟨q923, q36, ⟨by decide +kernel, by decide +kernel⟩, by decide +kernel⟩
theorem okX2_all : gOk yX2_all cX2_all 4 (some .int) 1 := ⟨q515, q36, ⟨by decide +kernel, by decide +kernel⟩, by decide +kernel⟩
theorem okX2_ask : gOk yX2_ask cX2_ask 3 (some .boolean) 2 := ⟨q507, q36, ⟨by decide +kernel, by decide +kernel⟩, by decide +kernel⟩
theorem okX2_back : gOk yX2_back cX2_back 2 (some .int) 1 := ⟨q995, q36, ⟨by decide +kernel, by decide +kernel⟩, by decide +kernel⟩
theorem okX2_both : gOk yX2_both cX2_both 5 (some .int) 2 := ⟨q567, q36, ⟨by decide +kernel, by decide +kernel⟩, by decide +kernel⟩
theorem okX2_clear : gOk yX2_clear cX2_clear 2 (some .int) 1 := ⟨q395, q36, ⟨by decide +kernel, by decide +kernel⟩, by decide +kernel⟩
theorem okX2_copy : gOk yX2_copy cX2_copy 5 (some .int) 2 := ⟨q402, q36, ⟨by decide +kernel, by decide +kernel⟩, by decide +kernel⟩
theorem okX2_count : gOk yX2_count cX2_count 4 (some .int) 2 := ⟨q894, q36, ⟨by decide +kernel, by decide +kernel⟩, by decide +kernel⟩
theorem okX2_countKind : gOk yX2_countKind cX2_countKind 4 (some .int) 2 := ⟨q902, q36, ⟨by decide +kernel, by decide +kernel⟩, by decide +kernel⟩
theorem okX2_cut : gOk yX2_cut cX2_cut 5 (some .int) 3 := ⟨q442, q36, ⟨by decide +kernel, by decide +kernel⟩, by decide +kernel⟩
theorem okX2_cuts : gOk yX2_cuts cX2_cuts 2 (some .int) 1 := ⟨q987, q36, ⟨by decide +kernel, by decide +kernel⟩, by decide +kernel⟩
theorem okX2_differ : gOk yX2_differ cX2_differ 5 (some .int) 3 := ⟨q581, q36, ⟨by decide +kernel, by decide +kernel⟩, by decide +kernel⟩
theorem okX2_drop : gOk yX2_drop cX2_drop 5 (some .int) 2 := ⟨q380, q36, ⟨by decide +kernel, by decide +kernel⟩, by decide +kernel⟩
theorem okX2_fault : gOk yX2_fault cX2_fault 2 (some .int) 1 := ⟨q937, q36, ⟨by decide +kernel, by decide +kernel⟩, by decide +kernel⟩
theorem okX2_fewest : gOk yX2_fewest cX2_fewest 2 (some .int) 1 := ⟨q1003, q36, ⟨by decide +kernel, by decide +kernel⟩, by decide +kernel⟩
theorem okX2_fill : gOk yX2_fill cX2_fill 7 (some .int) 3 := ⟨q435, q36, ⟨by decide +kernel, by decide +kernel⟩, by decide +kernel⟩
theorem okX2_first : gOk yX2_first cX2_first 7 (some .int) 3 := ⟨q916, q36, ⟨by decide +kernel, by decide +kernel⟩, by decide +kernel⟩
theorem okX2_insert : gOk yX2_insert cX2_insert 5 (some .int) 3 := ⟨q373, q36, ⟨by decide +kernel, by decide +kernel⟩, by decide +kernel⟩
theorem okX2_isAll : gOk yX2_isAll cX2_isAll 4 (some .boolean) 2 := ⟨q909, q36, ⟨by decide +kernel, by decide +kernel⟩, by decide +kernel⟩
theorem okX2_isName : gOk yX2_isName cX2_isName 2 (some .boolean) 1 := ⟨q930, q36, ⟨by decide +kernel, by decide +kernel⟩, by decide +kernel⟩
theorem okX2_join : gOk yX2_join cX2_join 5 (some .int) 2 := ⟨q413, q36, ⟨by decide +kernel, by decide +kernel⟩, by decide +kernel⟩
theorem okX2_keep : gOk yX2_keep cX2_keep 5 (some .int) 3 := ⟨q449, q36, ⟨by decide +kernel, by decide +kernel⟩, by decide +kernel⟩
theorem okX2_keepKind : gOk yX2_keepKind cX2_keepKind 5 (some .int) 3 := ⟨q463, q36, ⟨by decide +kernel, by decide +kernel⟩, by decide +kernel⟩
theorem okX2_kind : gOk yX2_kind cX2_kind 2 (some .int) 1 := ⟨q500, q36, ⟨by decide +kernel, by decide +kernel⟩, by decide +kernel⟩
theorem okX2_kinds : gOk yX2_kinds cX2_kinds 5 (some .int) 2 := ⟨q560, q36, ⟨by decide +kernel, by decide +kernel⟩, by decide +kernel⟩
theorem okX2_kindsOf : gOk yX2_kindsOf cX2_kindsOf 5 (some (.object "java/lang/String")) 1 := ⟨q886, q36, ⟨by decide +kernel, by decide +kernel⟩, by decide +kernel⟩
theorem okX2_length : gOk yX2_length cX2_length 2 (some .int) 1 := ⟨q588, q36, ⟨by decide +kernel, by decide +kernel⟩, by decide +kernel⟩
theorem okX2_longest : gOk yX2_longest cX2_longest 4 (some .int) 2 := ⟨q956, q36, ⟨by decide +kernel, by decide +kernel⟩, by decide +kernel⟩
theorem okX2_mend : gOk yX2_mend cX2_mend 5 (some .int) 1 := ⟨q492, q36, ⟨by decide +kernel, by decide +kernel⟩, by decide +kernel⟩
theorem okX2_next : gOk yX2_next cX2_next 5 (some .int) 3 := ⟨q529, q36, ⟨by decide +kernel, by decide +kernel⟩, by decide +kernel⟩
theorem okX2_nth : gOk yX2_nth cX2_nth 5 (some .int) 2 := ⟨q522, q36, ⟨by decide +kernel, by decide +kernel⟩, by decide +kernel⟩
theorem okX2_ofKind : gOk yX2_ofKind cX2_ofKind 6 (some .int) 3 := ⟨q543, q36, ⟨by decide +kernel, by decide +kernel⟩, by decide +kernel⟩
theorem okX2_ofQuestion : gOk yX2_ofQuestion cX2_ofQuestion 6 (some .int) 3 := ⟨q553, q36, ⟨by decide +kernel, by decide +kernel⟩, by decide +kernel⟩
theorem okX2_parted : gOk yX2_parted cX2_parted 4 (some .int) 2 := ⟨q1011, q36, ⟨by decide +kernel, by decide +kernel⟩, by decide +kernel⟩
theorem okX2_piece : gOk yX2_piece cX2_piece 6 (some .int) 3 := ⟨q971, q36, ⟨by decide +kernel, by decide +kernel⟩, by decide +kernel⟩
theorem okX2_pieces : gOk yX2_pieces cX2_pieces 2 (some .int) 1 := ⟨q963, q36, ⟨by decide +kernel, by decide +kernel⟩, by decide +kernel⟩
theorem okX2_put : gOk yX2_put cX2_put 6 (some .int) 3 := ⟨q361, q36, ⟨by decide +kernel, by decide +kernel⟩, by decide +kernel⟩
theorem okX2_run : gOk yX2_run cX2_run 5 (some .int) 2 := ⟨q536, q36, ⟨by decide +kernel, by decide +kernel⟩, by decide +kernel⟩
theorem okX2_sign : gOk yX2_sign cX2_sign 4 (some .int) 2 := ⟨q595, q36, ⟨by decide +kernel, by decide +kernel⟩, by decide +kernel⟩
theorem okX2_signs : gOk yX2_signs cX2_signs 5 (some (.object "java/lang/String")) 1 := ⟨q602, q36, ⟨by decide +kernel, by decide +kernel⟩, by decide +kernel⟩
theorem okX2_sort : gOk yX2_sort cX2_sort 5 (some .int) 3 := ⟨q945, q36, ⟨by decide +kernel, by decide +kernel⟩, by decide +kernel⟩
theorem okX2_sorts : gOk yX2_sorts cX2_sorts 6 (some (.object "java/lang/String")) 1 := ⟨q979, q36, ⟨by decide +kernel, by decide +kernel⟩, by decide +kernel⟩
theorem okX2_take : gOk yX2_take cX2_take 7 (some .int) 3 := ⟨q477, q36, ⟨by decide +kernel, by decide +kernel⟩, by decide +kernel⟩
theorem okX2_turn : gOk yX2_turn cX2_turn 2 (some .int) 1 := ⟨q424, q36, ⟨by decide +kernel, by decide +kernel⟩, by decide +kernel⟩
theorem okX2_within : gOk yX2_within cX2_within 4 (some .boolean) 2 := ⟨q574, q36, ⟨by decide +kernel, by decide +kernel⟩, by decide +kernel⟩
abbrev rmc_L_add : Room := { frames := 8, cells := 2, slots := 12, locals := 144 }
set_option maxRecDepth 100000 in
theorem c_L_add {l : Launch} {s0 : State} {G : gK} {w : wd} (h0 : gS0 s0) (htr : l.stackTraces = false) {K : kA} {M : kM} {t : Int} {s : Int} {oc : Nat} {yo : Int64} {sv : Value} (hS : kS G w K M) (ht : inr t) (hs : inr s) (ho : w oc = some (eO 4 [.long yo, sv])) (hd : ¬ kP K oc) : gM l s0 G yL_add [Cond.codeWith yL_add cL_add 5 (some .int) [(0, 11, 14, 19), (0, 11, 18, 21)]] rmc_L_add [rv K.1, iv t, iv s, rv oc] w (fun v w' => ∃ z : Int, v = some (iv z) ∧ dA G w K M oc (0 ≤ t ∧ t < 3) (0 ≤ s ∧ s < 256) (acIns M.1 M.2.1 t (M.1 t) s) sv z w') (noX) := by
  refine g_ofH h0 htr (by decide +kernel) (Nat.le_of_ble_eq_true rfl) ?_
  intro b Z0 E
  have Z : gAm b l s0 G cL_add RL 5 rmc_L_add := Z0
  refine x_el (L' := [(0, rv K.1), (1, iv t), (2, iv s), (3, rv oc)]) rfl ?_
  refine x_aload_n Z dL_add_0 rfl rfl ?_
  refine x_aload_n Z dL_add_1 rfl rfl ?_
  refine x_iload_n Z dL_add_2 rfl rfl ?_
  refine x_iload_n Z dL_add_3 rfl rfl ?_
  refine x_callVx (ci := 3) (C := RX2) (T := TX2) (N := 4) Z okX2_add q309 q310 q311 rfl dL_add_4 (c_X2_add h0 htr hS (by assumption) (by assumption)) hS.1 ⟨Nat.le_of_ble_eq_true rfl, Nat.le_of_ble_eq_true rfl, Nat.le_of_ble_eq_true rfl, Nat.le_of_ble_eq_true rfl⟩ rfl rfl (Nat.le_of_ble_eq_true rfl) (fun X w9 hX => ?_) (fun v9 w9 hR => ?_)
  ·
    rcases hX with ⟨⟨rfl, hn1⟩ | ⟨rfl, ho1, hn2⟩, e9⟩ <;> rw [e9]
    refine x_ct2 Z E q307 q319 rfl (by decide) (fun q9 => ?_)
    refine x_astore (L' := [(4, _), (0, _), (1, _), (2, _), (3, _)]) Z dL_add_14 (Nat.le_of_ble_eq_true rfl) rfl ?_
    refine x_iconst Z dL_add_16 ?_
    exact x_iret Z E (by first | exact ⟨0, rfl, dA.of hP9.1 hP9.2 hS9 hd9 hf9 hd⟩ | exact ⟨1, rfl, Or.inl ⟨rfl, hn1, rfl⟩⟩ | exact ⟨2, rfl, Or.inr (Or.inl ⟨rfl, ho1, hn2, rfl⟩)⟩) dL_add_17 (Nat.le_of_ble_eq_true rfl) (Nat.le_of_ble_eq_true rfl)
    refine x_ct3 Z E q307 (by decide) q308 q228 rfl (by decide) (fun q9 => ?_)
    refine x_astore (L' := [(4, _), (0, _), (1, _), (2, _), (3, _)]) Z dL_add_18 (Nat.le_of_ble_eq_true rfl) rfl ?_
    refine x_iconst Z dL_add_20 ?_
    exact x_iret Z E (by first | exact ⟨0, rfl, dA.of hP9.1 hP9.2 hS9 hd9 hf9 hd⟩ | exact ⟨1, rfl, Or.inl ⟨rfl, hn1, rfl⟩⟩ | exact ⟨2, rfl, Or.inr (Or.inl ⟨rfl, ho1, hn2, rfl⟩)⟩) dL_add_21 (Nat.le_of_ble_eq_true rfl) (Nat.le_of_ble_eq_true rfl)
  obtain ⟨⟨z, rfl, M9, hS9, hd9, hf9⟩, hP9⟩ := hR
  have ho9 := hf9.at hd ho
  simp only [Option.toList_some, Option.toList_none, List.cons_append, List.nil_append]
  refine x_i2l Z dL_add_7 ?_
  refine x_putfN (ci := 4) (j := 0) (C := RX3) (T := TX3) (N := 2) (fs' := [_, _]) Z tyX3 tyX3_ok nmX3 inX3g rfl (by decide) q297 rfl rfl rfl rfl rfl dL_add_8 (by assumption) (by exact Nat.le_of_ble_eq_true rfl) rfl ?_
  refine x_goto Z 22 dL_add_11 (by decide) ?_
  refine x_iconst Z dL_add_22 ?_
  exact x_iret Z E (by first | exact ⟨0, rfl, dA.of hP9.1 hP9.2 hS9 hd9 hf9 hd⟩ | exact ⟨1, rfl, Or.inl ⟨rfl, hn1, rfl⟩⟩ | exact ⟨2, rfl, Or.inr (Or.inl ⟨rfl, ho1, hn2, rfl⟩)⟩) dL_add_23 (Nat.le_of_ble_eq_true rfl) (Nat.le_of_ble_eq_true rfl)
abbrev rmc_L_alike : Room := { frames := 8, cells := 2, slots := 12, locals := 146 }
set_option maxRecDepth 100000 in
theorem c_L_alike {l : Launch} {s0 : State} {G : gK} {w : wd} (h0 : gS0 s0) (htr : l.stackTraces = false) {K : kA} {M : kM} {t : Int} {u : Int} {oc : Nat} {yo : Int64} {sv : Value} (hS : kS G w K M) (ht : inr t) (hu : inr u) (ho : w oc = some (eO 4 [.long yo, sv])) (hd : ¬ kP K oc) : gM l s0 G yL_alike [Cond.codeWith yL_alike cL_alike 5 (some .int) [(0, 18, 21, 19)]] rmc_L_alike [rv K.1, iv t, iv u, rv oc] w (fun v w' => ∃ z : Int, v = some (iv z) ∧ dT G w K M oc ((0 ≤ t ∧ t < 3) ∧ 0 ≤ u ∧ u < 3) (True) (fun y => y = cond (decide (M.1 t = M.1 u ∧ findI (fun j => decide (kin (M.2.1 t j) ≠ kin (M.2.1 u j))) 0 (M.1 t) = M.1 t)) 1 0) sv z w') (noX) := by
  refine g_ofH h0 htr (by decide +kernel) (Nat.le_of_ble_eq_true rfl) ?_
  intro b Z0 E
  have Z : gAm b l s0 G cL_alike RL 5 rmc_L_alike := Z0
  refine x_el (L' := [(0, rv K.1), (1, iv t), (2, iv u), (3, rv oc)]) rfl ?_
  refine x_aload_n Z dL_alike_0 rfl rfl ?_
  refine x_aload_n Z dL_alike_1 rfl rfl ?_
  refine x_iload_n Z dL_alike_2 rfl rfl ?_
  refine x_iload_n Z dL_alike_3 rfl rfl ?_
  refine x_callVx (ci := 3) (C := RX2) (T := TX2) (N := 4) Z okX2_alike q920 q921 q922 rfl dL_alike_4 (c_X2_alike h0 htr hS (by assumption) (by assumption)) hS.1 ⟨Nat.le_of_ble_eq_true rfl, Nat.le_of_ble_eq_true rfl, Nat.le_of_ble_eq_true rfl, Nat.le_of_ble_eq_true rfl⟩ rfl rfl (Nat.le_of_ble_eq_true rfl) (fun X w9 hX => ?_) (fun v9 w9 hR => ?_)
  ·
    obtain ⟨rfl, e9, hn1⟩ := hX
    rw [e9]
    refine x_ct1 Z E q307 q319 rfl (by decide) (fun q9 => ?_)
    refine x_astore (L' := [(4, _), (0, _), (1, _), (2, _), (3, _)]) Z dL_alike_21 (Nat.le_of_ble_eq_true rfl) rfl ?_
    refine x_iconst Z dL_alike_23 ?_
    exact x_iret Z E (by first | exact ⟨0, rfl, dT.of hP9 trivial hS9 (by rw [c7]; rfl) hf9 hd⟩ | exact ⟨1, rfl, Or.inl ⟨rfl, hn1, rfl⟩⟩ | exact ⟨2, rfl, Or.inr (Or.inl ⟨rfl, ho1, hn2, rfl⟩)⟩) dL_alike_24 (Nat.le_of_ble_eq_true rfl) (Nat.le_of_ble_eq_true rfl)
  obtain ⟨⟨rfl, e9⟩, hP9⟩ := hR
  refine x_ew e9 ?_
  have hS9 := hS
  have hf9 : fr (kP K) w w := fr.rf
  have ho9 := ho
  simp only [Option.toList_some, Option.toList_none, List.cons_append, List.nil_append]
  refine x_ifb_eq Z 14 dL_alike_7 (by decide) (fun c7 => ?_) (fun c7 => ?_)
  ·
    refine x_lconst Z dL_alike_14 ?_
    refine x_putfN (ci := 4) (j := 0) (C := RX3) (T := TX3) (N := 2) (fs' := [_, _]) Z tyX3 tyX3_ok nmX3 inX3g rfl (by decide) q297 rfl rfl rfl rfl rfl dL_alike_15 (by assumption) (by exact Nat.le_of_ble_eq_true rfl) rfl ?_
    refine x_goto Z 25 dL_alike_18 (by decide) ?_
    refine x_iconst Z dL_alike_25 ?_
    exact x_iret Z E (by first | exact ⟨0, rfl, dT.of hP9 trivial hS9 (by rw [c7]; rfl) hf9 hd⟩ | exact ⟨1, rfl, Or.inl ⟨rfl, hn1, rfl⟩⟩ | exact ⟨2, rfl, Or.inr (Or.inl ⟨rfl, ho1, hn2, rfl⟩)⟩) dL_alike_26 (Nat.le_of_ble_eq_true rfl) (Nat.le_of_ble_eq_true rfl)
  ·
    refine x_lconst Z dL_alike_10 ?_
    refine x_goto Z 15 dL_alike_11 (by decide) ?_
    refine x_putfN (ci := 4) (j := 0) (C := RX3) (T := TX3) (N := 2) (fs' := [_, _]) Z tyX3 tyX3_ok nmX3 inX3g rfl (by decide) q297 rfl rfl rfl rfl rfl dL_alike_15 (by assumption) (by exact Nat.le_of_ble_eq_true rfl) rfl ?_
    refine x_goto Z 25 dL_alike_18 (by decide) ?_
    refine x_iconst Z dL_alike_25 ?_
    exact x_iret Z E (by first | exact ⟨0, rfl, dT.of hP9 trivial hS9 (by rw [c7]; rfl) hf9 hd⟩ | exact ⟨1, rfl, Or.inl ⟨rfl, hn1, rfl⟩⟩ | exact ⟨2, rfl, Or.inr (Or.inl ⟨rfl, ho1, hn2, rfl⟩)⟩) dL_alike_26 (Nat.le_of_ble_eq_true rfl) (Nat.le_of_ble_eq_true rfl)
abbrev rmc_L_all : Room := { frames := 8, cells := 1, slots := 6, locals := 143 }
set_option maxRecDepth 100000 in
theorem c_L_all {l : Launch} {s0 : State} {G : gK} {w : wd} (h0 : gS0 s0) (htr : l.stackTraces = false) {K : kA} {M : kM} {s : Int} {oc : Nat} {yo : Int64} {sv : Value} (hS : kS G w K M) (hs : inr s) (ho : w oc = some (eO 4 [.long yo, sv])) (hd : ¬ kP K oc) : gM l s0 G yL_all [Cond.codeWith yL_all cL_all 4 (some .int) [(0, 10, 13, 21)]] rmc_L_all [rv K.1, iv s, rv oc] w (fun v w' => ∃ z : Int, v = some (iv z) ∧ dQ w oc z (0 ≤ s ∧ s < 256) ((zI (msk (fun q => so s q) 14)).toInt64) sv w') (noX) := by
  refine g_ofH h0 htr (by decide +kernel) (Nat.le_of_ble_eq_true rfl) ?_
  intro b Z0 E
  have Z : gAm b l s0 G cL_all RL 4 rmc_L_all := Z0
  refine x_el (L' := [(0, rv K.1), (1, iv s), (2, rv oc)]) rfl ?_
  refine x_aload_n Z dL_all_0 rfl rfl ?_
  refine x_aload_n Z dL_all_1 rfl rfl ?_
  refine x_iload_n Z dL_all_2 rfl rfl ?_
  refine x_callVx (ci := 3) (C := RX2) (T := TX2) (N := 4) Z okX2_all q512 q513 q514 rfl dL_all_3 (c_X2_all h0 htr hS (by assumption)) hS.1 ⟨Nat.le_of_ble_eq_true rfl, Nat.le_of_ble_eq_true rfl, Nat.le_of_ble_eq_true rfl, Nat.le_of_ble_eq_true rfl⟩ rfl rfl (Nat.le_of_ble_eq_true rfl) (fun X w9 hX => ?_) (fun v9 w9 hR => ?_)
  ·
    obtain ⟨rfl, e9, hnP⟩ := hX
    rw [e9]
    refine x_ct1 Z E q308 q228 rfl (by decide) (fun q9 => ?_)
    refine x_astore_n (L' := [(3, _), (0, _), (1, _), (2, _)]) Z dL_all_13 rfl (Nat.le_of_ble_eq_true rfl) rfl ?_
    refine x_iconst Z dL_all_14 ?_
    exact x_iret Z E (by first | exact ⟨0, rfl, Or.inr ⟨rfl, hP9, rfl⟩⟩ | exact ⟨1, rfl, Or.inl ⟨rfl, hnP, rfl⟩⟩) dL_all_15 (Nat.le_of_ble_eq_true rfl) (Nat.le_of_ble_eq_true rfl)
  obtain ⟨⟨rfl, e9⟩, hP9⟩ := hR
  refine x_ew e9 ?_
  have hS9 := hS
  have hf9 : fr (kP K) w w := fr.rf
  have ho9 := ho
  simp only [Option.toList_some, Option.toList_none, List.cons_append, List.nil_append]
  refine x_i2l Z dL_all_6 ?_
  refine x_putfN (ci := 4) (j := 0) (C := RX3) (T := TX3) (N := 2) (fs' := [_, _]) Z tyX3 tyX3_ok nmX3 inX3g rfl (by decide) q297 rfl rfl rfl rfl rfl dL_all_7 (by assumption) (by exact Nat.le_of_ble_eq_true rfl) rfl ?_
  refine x_goto Z 16 dL_all_10 (by decide) ?_
  refine x_iconst Z dL_all_16 ?_
  exact x_iret Z E (by first | exact ⟨0, rfl, Or.inr ⟨rfl, hP9, rfl⟩⟩ | exact ⟨1, rfl, Or.inl ⟨rfl, hnP, rfl⟩⟩) dL_all_17 (Nat.le_of_ble_eq_true rfl) (Nat.le_of_ble_eq_true rfl)
abbrev rmc_L_ask : Room := { frames := 8, cells := 2, slots := 12, locals := 142 }
set_option maxRecDepth 100000 in
theorem c_L_ask {l : Launch} {s0 : State} {G : gK} {w : wd} (h0 : gS0 s0) (htr : l.stackTraces = false) {K : kA} {M : kM} {s : Int} {q : Int} {oc : Nat} {yo : Int64} {sv : Value} (hS : kS G w K M) (hs : inr s) (hq : inr q) (ho : w oc = some (eO 4 [.long yo, sv])) (hd : ¬ kP K oc) : gM l s0 G yL_ask [Cond.codeWith yL_ask cL_ask 5 (some .int) [(0, 18, 21, 21)]] rmc_L_ask [rv K.1, iv s, iv q, rv oc] w (fun v w' => ∃ z : Int, v = some (iv z) ∧ dQ w oc z ((0 ≤ s ∧ s < 256) ∧ (0 ≤ q ∧ q < 14)) (cond ((so s q)) 1 0) sv w') (noX) := by
  refine g_ofH h0 htr (by decide +kernel) (Nat.le_of_ble_eq_true rfl) ?_
  intro b Z0 E
  have Z : gAm b l s0 G cL_ask RL 5 rmc_L_ask := Z0
  refine x_el (L' := [(0, rv K.1), (1, iv s), (2, iv q), (3, rv oc)]) rfl ?_
  refine x_aload_n Z dL_ask_0 rfl rfl ?_
  refine x_aload_n Z dL_ask_1 rfl rfl ?_
  refine x_iload_n Z dL_ask_2 rfl rfl ?_
  refine x_iload_n Z dL_ask_3 rfl rfl ?_
  refine x_callVx (ci := 3) (C := RX2) (T := TX2) (N := 4) Z okX2_ask q504 q505 q506 rfl dL_ask_4 (c_X2_ask h0 htr hS (by assumption) (by assumption)) hS.1 ⟨Nat.le_of_ble_eq_true rfl, Nat.le_of_ble_eq_true rfl, Nat.le_of_ble_eq_true rfl, Nat.le_of_ble_eq_true rfl⟩ rfl rfl (Nat.le_of_ble_eq_true rfl) (fun X w9 hX => ?_) (fun v9 w9 hR => ?_)
  ·
    obtain ⟨rfl, e9, hnP⟩ := hX
    rw [e9]
    refine x_ct1 Z E q308 q228 rfl (by decide) (fun q9 => ?_)
    refine x_astore (L' := [(4, _), (0, _), (1, _), (2, _), (3, _)]) Z dL_ask_21 (Nat.le_of_ble_eq_true rfl) rfl ?_
    refine x_iconst Z dL_ask_23 ?_
    exact x_iret Z E (by first | exact ⟨0, rfl, Or.inr ⟨rfl, hP9, by rw [c7]; rfl⟩⟩ | exact ⟨1, rfl, Or.inl ⟨rfl, hnP, rfl⟩⟩) dL_ask_24 (Nat.le_of_ble_eq_true rfl) (Nat.le_of_ble_eq_true rfl)
  obtain ⟨⟨rfl, e9⟩, hP9⟩ := hR
  refine x_ew e9 ?_
  have hS9 := hS
  have hf9 : fr (kP K) w w := fr.rf
  have ho9 := ho
  simp only [Option.toList_some, Option.toList_none, List.cons_append, List.nil_append]
  refine x_ifb_eq Z 14 dL_ask_7 (by decide) (fun c7 => ?_) (fun c7 => ?_)
  ·
    refine x_lconst Z dL_ask_14 ?_
    refine x_putfN (ci := 4) (j := 0) (C := RX3) (T := TX3) (N := 2) (fs' := [_, _]) Z tyX3 tyX3_ok nmX3 inX3g rfl (by decide) q297 rfl rfl rfl rfl rfl dL_ask_15 (by assumption) (by exact Nat.le_of_ble_eq_true rfl) rfl ?_
    refine x_goto Z 25 dL_ask_18 (by decide) ?_
    refine x_iconst Z dL_ask_25 ?_
    exact x_iret Z E (by first | exact ⟨0, rfl, Or.inr ⟨rfl, hP9, by rw [c7]; rfl⟩⟩ | exact ⟨1, rfl, Or.inl ⟨rfl, hnP, rfl⟩⟩) dL_ask_26 (Nat.le_of_ble_eq_true rfl) (Nat.le_of_ble_eq_true rfl)
  ·
    refine x_lconst Z dL_ask_10 ?_
    refine x_goto Z 15 dL_ask_11 (by decide) ?_
    refine x_putfN (ci := 4) (j := 0) (C := RX3) (T := TX3) (N := 2) (fs' := [_, _]) Z tyX3 tyX3_ok nmX3 inX3g rfl (by decide) q297 rfl rfl rfl rfl rfl dL_ask_15 (by assumption) (by exact Nat.le_of_ble_eq_true rfl) rfl ?_
    refine x_goto Z 25 dL_ask_18 (by decide) ?_
    refine x_iconst Z dL_ask_25 ?_
    exact x_iret Z E (by first | exact ⟨0, rfl, Or.inr ⟨rfl, hP9, by rw [c7]; rfl⟩⟩ | exact ⟨1, rfl, Or.inl ⟨rfl, hnP, rfl⟩⟩) dL_ask_26 (Nat.le_of_ble_eq_true rfl) (Nat.le_of_ble_eq_true rfl)
abbrev rmc_L_back : Room := { frames := 8, cells := 1, slots := 6, locals := 142 }
set_option maxRecDepth 100000 in
theorem c_L_back {l : Launch} {s0 : State} {G : gK} {w : wd} (h0 : gS0 s0) (htr : l.stackTraces = false) {K : kA} {M : kM} {t : Int} {oc : Nat} {yo : Int64} {sv : Value} (hS : kS G w K M) (ht : inr t) (ho : w oc = some (eO 4 [.long yo, sv])) (hd : ¬ kP K oc) : gM l s0 G yL_back [Cond.codeWith yL_back cL_back 4 (some .int) [(0, 10, 13, 19)]] rmc_L_back [rv K.1, iv t, rv oc] w (fun v w' => ∃ z : Int, v = some (iv z) ∧ dT G w K M oc (0 ≤ t ∧ t < 3) (True) (fun y => ∃ z : Int, (inr z ∧ ∃ h : Nat, bkM (M.1 t) (M.2.1 t) false h z ∧ bkc (M.1 t) (M.2.1 t) h = 0) ∧ y = (zI z).toInt64) sv z w') (noX) := by
  refine g_ofH h0 htr (by decide +kernel) (Nat.le_of_ble_eq_true rfl) ?_
  intro b Z0 E
  have Z : gAm b l s0 G cL_back RL 4 rmc_L_back := Z0
  refine x_el (L' := [(0, rv K.1), (1, iv t), (2, rv oc)]) rfl ?_
  refine x_aload_n Z dL_back_0 rfl rfl ?_
  refine x_aload_n Z dL_back_1 rfl rfl ?_
  refine x_iload_n Z dL_back_2 rfl rfl ?_
  refine x_callVx (ci := 3) (C := RX2) (T := TX2) (N := 4) Z okX2_back q992 q993 q994 rfl dL_back_3 (c_X2_back h0 htr hS (by assumption)) hS.1 ⟨Nat.le_of_ble_eq_true rfl, Nat.le_of_ble_eq_true rfl, Nat.le_of_ble_eq_true rfl, Nat.le_of_ble_eq_true rfl⟩ rfl rfl (Nat.le_of_ble_eq_true rfl) (fun X w9 hX => ?_) (fun v9 w9 hR => ?_)
  ·
    obtain ⟨rfl, e9, hn1⟩ := hX
    rw [e9]
    refine x_ct1 Z E q307 q319 rfl (by decide) (fun q9 => ?_)
    refine x_astore_n (L' := [(3, _), (0, _), (1, _), (2, _)]) Z dL_back_13 rfl (Nat.le_of_ble_eq_true rfl) rfl ?_
    refine x_iconst Z dL_back_14 ?_
    exact x_iret Z E (by first | exact ⟨0, rfl, dT.of hP9 trivial hS9 ⟨_, hz9, rfl⟩ hf9 hd⟩ | exact ⟨1, rfl, Or.inl ⟨rfl, hn1, rfl⟩⟩ | exact ⟨2, rfl, Or.inr (Or.inl ⟨rfl, ho1, hn2, rfl⟩)⟩) dL_back_15 (Nat.le_of_ble_eq_true rfl) (Nat.le_of_ble_eq_true rfl)
  obtain ⟨⟨z, rfl, hz9, hS9, hf9⟩, hP9⟩ := hR
  have ho9 := hf9.at hd ho
  simp only [Option.toList_some, Option.toList_none, List.cons_append, List.nil_append]
  refine x_i2l Z dL_back_6 ?_
  refine x_putfN (ci := 4) (j := 0) (C := RX3) (T := TX3) (N := 2) (fs' := [_, _]) Z tyX3 tyX3_ok nmX3 inX3g rfl (by decide) q297 rfl rfl rfl rfl rfl dL_back_7 (by assumption) (by exact Nat.le_of_ble_eq_true rfl) rfl ?_
  refine x_goto Z 16 dL_back_10 (by decide) ?_
  refine x_iconst Z dL_back_16 ?_
  exact x_iret Z E (by first | exact ⟨0, rfl, dT.of hP9 trivial hS9 ⟨_, hz9, rfl⟩ hf9 hd⟩ | exact ⟨1, rfl, Or.inl ⟨rfl, hn1, rfl⟩⟩ | exact ⟨2, rfl, Or.inr (Or.inl ⟨rfl, ho1, hn2, rfl⟩)⟩) dL_back_17 (Nat.le_of_ble_eq_true rfl) (Nat.le_of_ble_eq_true rfl)
abbrev rmc_L_both : Room := { frames := 8, cells := 2, slots := 12, locals := 144 }
set_option maxRecDepth 100000 in
theorem c_L_both {l : Launch} {s0 : State} {G : gK} {w : wd} (h0 : gS0 s0) (htr : l.stackTraces = false) {K : kA} {M : kM} {k1 : Int} {q : Int} {oc : Nat} {yo : Int64} {sv : Value} (hS : kS G w K M) (hk1 : inr k1) (hq : inr q) (ho : w oc = some (eO 4 [.long yo, sv])) (hd : ¬ kP K oc) : gM l s0 G yL_both [Cond.codeWith yL_both cL_both 5 (some .int) [(0, 11, 14, 21)]] rmc_L_both [rv K.1, iv k1, iv q, rv oc] w (fun v w' => ∃ z : Int, v = some (iv z) ∧ dQ w oc z (((0 ≤ k1 ∧ k1 < 31)) ∧ (0 ≤ q ∧ q < 14)) ((zI (forI (cst (fun c => decide (kin c = k1) && so c q)) 0 256 0)).toInt64) sv w') (noX) := by
  refine g_ofH h0 htr (by decide +kernel) (Nat.le_of_ble_eq_true rfl) ?_
  intro b Z0 E
  have Z : gAm b l s0 G cL_both RL 5 rmc_L_both := Z0
  refine x_el (L' := [(0, rv K.1), (1, iv k1), (2, iv q), (3, rv oc)]) rfl ?_
  refine x_aload_n Z dL_both_0 rfl rfl ?_
  refine x_aload_n Z dL_both_1 rfl rfl ?_
  refine x_iload_n Z dL_both_2 rfl rfl ?_
  refine x_iload_n Z dL_both_3 rfl rfl ?_
  refine x_callVx (ci := 3) (C := RX2) (T := TX2) (N := 4) Z okX2_both q564 q565 q566 rfl dL_both_4 (c_X2_both h0 htr hS (by assumption) (by assumption)) hS.1 ⟨Nat.le_of_ble_eq_true rfl, Nat.le_of_ble_eq_true rfl, Nat.le_of_ble_eq_true rfl, Nat.le_of_ble_eq_true rfl⟩ rfl rfl (Nat.le_of_ble_eq_true rfl) (fun X w9 hX => ?_) (fun v9 w9 hR => ?_)
  ·
    obtain ⟨rfl, e9, hnP⟩ := hX
    rw [e9]
    refine x_ct1 Z E q308 q228 rfl (by decide) (fun q9 => ?_)
    refine x_astore (L' := [(4, _), (0, _), (1, _), (2, _), (3, _)]) Z dL_both_14 (Nat.le_of_ble_eq_true rfl) rfl ?_
    refine x_iconst Z dL_both_16 ?_
    exact x_iret Z E (by first | exact ⟨0, rfl, Or.inr ⟨rfl, hP9, rfl⟩⟩ | exact ⟨1, rfl, Or.inl ⟨rfl, hnP, rfl⟩⟩) dL_both_17 (Nat.le_of_ble_eq_true rfl) (Nat.le_of_ble_eq_true rfl)
  obtain ⟨⟨rfl, e9⟩, hP9⟩ := hR
  refine x_ew e9 ?_
  have hS9 := hS
  have hf9 : fr (kP K) w w := fr.rf
  have ho9 := ho
  simp only [Option.toList_some, Option.toList_none, List.cons_append, List.nil_append]
  refine x_i2l Z dL_both_7 ?_
  refine x_putfN (ci := 4) (j := 0) (C := RX3) (T := TX3) (N := 2) (fs' := [_, _]) Z tyX3 tyX3_ok nmX3 inX3g rfl (by decide) q297 rfl rfl rfl rfl rfl dL_both_8 (by assumption) (by exact Nat.le_of_ble_eq_true rfl) rfl ?_
  refine x_goto Z 18 dL_both_11 (by decide) ?_
  refine x_iconst Z dL_both_18 ?_
  exact x_iret Z E (by first | exact ⟨0, rfl, Or.inr ⟨rfl, hP9, rfl⟩⟩ | exact ⟨1, rfl, Or.inl ⟨rfl, hnP, rfl⟩⟩) dL_both_19 (Nat.le_of_ble_eq_true rfl) (Nat.le_of_ble_eq_true rfl)
abbrev rmc_L_clear : Room := { frames := 8, cells := 1, slots := 6, locals := 142 }
set_option maxRecDepth 100000 in
theorem c_L_clear {l : Launch} {s0 : State} {G : gK} {w : wd} (h0 : gS0 s0) (htr : l.stackTraces = false) {K : kA} {M : kM} {t : Int} {oc : Nat} {yo : Int64} {sv : Value} (hS : kS G w K M) (ht : inr t) (ho : w oc = some (eO 4 [.long yo, sv])) (hd : ¬ kP K oc) : gM l s0 G yL_clear [Cond.codeWith yL_clear cL_clear 4 (some .int) [(0, 10, 13, 19)]] rmc_L_clear [rv K.1, iv t, rv oc] w (fun v w' => ∃ z : Int, v = some (iv z) ∧ dA G w K M oc (0 ≤ t ∧ t < 3) (True) (acClear M.1 M.2.1 t) sv z w') (noX) := by
  refine g_ofH h0 htr (by decide +kernel) (Nat.le_of_ble_eq_true rfl) ?_
  intro b Z0 E
  have Z : gAm b l s0 G cL_clear RL 4 rmc_L_clear := Z0
  refine x_el (L' := [(0, rv K.1), (1, iv t), (2, rv oc)]) rfl ?_
  refine x_aload_n Z dL_clear_0 rfl rfl ?_
  refine x_aload_n Z dL_clear_1 rfl rfl ?_
  refine x_iload_n Z dL_clear_2 rfl rfl ?_
  refine x_callVx (ci := 3) (C := RX2) (T := TX2) (N := 4) Z okX2_clear q392 q393 q394 rfl dL_clear_3 (c_X2_clear h0 htr hS (by assumption)) hS.1 ⟨Nat.le_of_ble_eq_true rfl, Nat.le_of_ble_eq_true rfl, Nat.le_of_ble_eq_true rfl, Nat.le_of_ble_eq_true rfl⟩ rfl rfl (Nat.le_of_ble_eq_true rfl) (fun X w9 hX => ?_) (fun v9 w9 hR => ?_)
  ·
    obtain ⟨rfl, e9, hn1⟩ := hX
    rw [e9]
    refine x_ct1 Z E q307 q319 rfl (by decide) (fun q9 => ?_)
    refine x_astore_n (L' := [(3, _), (0, _), (1, _), (2, _)]) Z dL_clear_13 rfl (Nat.le_of_ble_eq_true rfl) rfl ?_
    refine x_iconst Z dL_clear_14 ?_
    exact x_iret Z E (by first | exact ⟨0, rfl, dA.of hP9 trivial hS9 hd9 hf9 hd⟩ | exact ⟨1, rfl, Or.inl ⟨rfl, hn1, rfl⟩⟩ | exact ⟨2, rfl, Or.inr (Or.inl ⟨rfl, ho1, hn2, rfl⟩)⟩) dL_clear_15 (Nat.le_of_ble_eq_true rfl) (Nat.le_of_ble_eq_true rfl)
  obtain ⟨⟨z, rfl, M9, hS9, hd9, hf9⟩, hP9⟩ := hR
  have ho9 := hf9.at hd ho
  simp only [Option.toList_some, Option.toList_none, List.cons_append, List.nil_append]
  refine x_i2l Z dL_clear_6 ?_
  refine x_putfN (ci := 4) (j := 0) (C := RX3) (T := TX3) (N := 2) (fs' := [_, _]) Z tyX3 tyX3_ok nmX3 inX3g rfl (by decide) q297 rfl rfl rfl rfl rfl dL_clear_7 (by assumption) (by exact Nat.le_of_ble_eq_true rfl) rfl ?_
  refine x_goto Z 16 dL_clear_10 (by decide) ?_
  refine x_iconst Z dL_clear_16 ?_
  exact x_iret Z E (by first | exact ⟨0, rfl, dA.of hP9 trivial hS9 hd9 hf9 hd⟩ | exact ⟨1, rfl, Or.inl ⟨rfl, hn1, rfl⟩⟩ | exact ⟨2, rfl, Or.inr (Or.inl ⟨rfl, ho1, hn2, rfl⟩)⟩) dL_clear_17 (Nat.le_of_ble_eq_true rfl) (Nat.le_of_ble_eq_true rfl)
abbrev rmc_L_copy : Room := { frames := 8, cells := 2, slots := 12, locals := 145 }
set_option maxRecDepth 100000 in
theorem c_L_copy {l : Launch} {s0 : State} {G : gK} {w : wd} (h0 : gS0 s0) (htr : l.stackTraces = false) {K : kA} {M : kM} {t : Int} {u : Int} {oc : Nat} {yo : Int64} {sv : Value} (hS : kS G w K M) (ht : inr t) (hu : inr u) (ho : w oc = some (eO 4 [.long yo, sv])) (hd : ¬ kP K oc) : gM l s0 G yL_copy [Cond.codeWith yL_copy cL_copy 5 (some .int) [(0, 11, 14, 19)]] rmc_L_copy [rv K.1, iv t, iv u, rv oc] w (fun v w' => ∃ z : Int, v = some (iv z) ∧ dA G w K M oc ((0 ≤ t ∧ t < 3) ∧ 0 ≤ u ∧ u < 3) (True) (acCopy M.1 M.2.1 t u) sv z w') (noX) := by
  refine g_ofH h0 htr (by decide +kernel) (Nat.le_of_ble_eq_true rfl) ?_
  intro b Z0 E
  have Z : gAm b l s0 G cL_copy RL 5 rmc_L_copy := Z0
  refine x_el (L' := [(0, rv K.1), (1, iv t), (2, iv u), (3, rv oc)]) rfl ?_
  refine x_aload_n Z dL_copy_0 rfl rfl ?_
  refine x_aload_n Z dL_copy_1 rfl rfl ?_
  refine x_iload_n Z dL_copy_2 rfl rfl ?_
  refine x_iload_n Z dL_copy_3 rfl rfl ?_
  refine x_callVx (ci := 3) (C := RX2) (T := TX2) (N := 4) Z okX2_copy q399 q400 q401 rfl dL_copy_4 (c_X2_copy h0 htr hS (by assumption) (by assumption)) hS.1 ⟨Nat.le_of_ble_eq_true rfl, Nat.le_of_ble_eq_true rfl, Nat.le_of_ble_eq_true rfl, Nat.le_of_ble_eq_true rfl⟩ rfl rfl (Nat.le_of_ble_eq_true rfl) (fun X w9 hX => ?_) (fun v9 w9 hR => ?_)
  ·
    obtain ⟨rfl, e9, hn1⟩ := hX
    rw [e9]
    refine x_ct1 Z E q307 q319 rfl (by decide) (fun q9 => ?_)
    refine x_astore (L' := [(4, _), (0, _), (1, _), (2, _), (3, _)]) Z dL_copy_14 (Nat.le_of_ble_eq_true rfl) rfl ?_
    refine x_iconst Z dL_copy_16 ?_
    exact x_iret Z E (by first | exact ⟨0, rfl, dA.of hP9 trivial hS9 hd9 hf9 hd⟩ | exact ⟨1, rfl, Or.inl ⟨rfl, hn1, rfl⟩⟩ | exact ⟨2, rfl, Or.inr (Or.inl ⟨rfl, ho1, hn2, rfl⟩)⟩) dL_copy_17 (Nat.le_of_ble_eq_true rfl) (Nat.le_of_ble_eq_true rfl)
  obtain ⟨⟨z, rfl, M9, hS9, hd9, hf9⟩, hP9⟩ := hR
  have ho9 := hf9.at hd ho
  simp only [Option.toList_some, Option.toList_none, List.cons_append, List.nil_append]
  refine x_i2l Z dL_copy_7 ?_
  refine x_putfN (ci := 4) (j := 0) (C := RX3) (T := TX3) (N := 2) (fs' := [_, _]) Z tyX3 tyX3_ok nmX3 inX3g rfl (by decide) q297 rfl rfl rfl rfl rfl dL_copy_8 (by assumption) (by exact Nat.le_of_ble_eq_true rfl) rfl ?_
  refine x_goto Z 18 dL_copy_11 (by decide) ?_
  refine x_iconst Z dL_copy_18 ?_
  exact x_iret Z E (by first | exact ⟨0, rfl, dA.of hP9 trivial hS9 hd9 hf9 hd⟩ | exact ⟨1, rfl, Or.inl ⟨rfl, hn1, rfl⟩⟩ | exact ⟨2, rfl, Or.inr (Or.inl ⟨rfl, ho1, hn2, rfl⟩)⟩) dL_copy_19 (Nat.le_of_ble_eq_true rfl) (Nat.le_of_ble_eq_true rfl)
abbrev rmc_L_count : Room := { frames := 8, cells := 2, slots := 12, locals := 144 }
set_option maxRecDepth 100000 in
theorem c_L_count {l : Launch} {s0 : State} {G : gK} {w : wd} (h0 : gS0 s0) (htr : l.stackTraces = false) {K : kA} {M : kM} {t : Int} {q : Int} {oc : Nat} {yo : Int64} {sv : Value} (hS : kS G w K M) (ht : inr t) (hq : inr q) (ho : w oc = some (eO 4 [.long yo, sv])) (hd : ¬ kP K oc) : gM l s0 G yL_count [Cond.codeWith yL_count cL_count 5 (some .int) [(0, 11, 14, 19), (0, 11, 18, 21)]] rmc_L_count [rv K.1, iv t, iv q, rv oc] w (fun v w' => ∃ z : Int, v = some (iv z) ∧ dT G w K M oc (0 ≤ t ∧ t < 3) (0 ≤ q ∧ q < 14) (fun y => y = (zI (forI (cst (fun j => so (M.2.1 t j) q)) 0 (M.1 t) 0)).toInt64) sv z w') (noX) := by
  refine g_ofH h0 htr (by decide +kernel) (Nat.le_of_ble_eq_true rfl) ?_
  intro b Z0 E
  have Z : gAm b l s0 G cL_count RL 5 rmc_L_count := Z0
  refine x_el (L' := [(0, rv K.1), (1, iv t), (2, iv q), (3, rv oc)]) rfl ?_
  refine x_aload_n Z dL_count_0 rfl rfl ?_
  refine x_aload_n Z dL_count_1 rfl rfl ?_
  refine x_iload_n Z dL_count_2 rfl rfl ?_
  refine x_iload_n Z dL_count_3 rfl rfl ?_
  refine x_callVx (ci := 3) (C := RX2) (T := TX2) (N := 4) Z okX2_count q891 q892 q893 rfl dL_count_4 (c_X2_count h0 htr hS (by assumption) (by assumption)) hS.1 ⟨Nat.le_of_ble_eq_true rfl, Nat.le_of_ble_eq_true rfl, Nat.le_of_ble_eq_true rfl, Nat.le_of_ble_eq_true rfl⟩ rfl rfl (Nat.le_of_ble_eq_true rfl) (fun X w9 hX => ?_) (fun v9 w9 hR => ?_)
  ·
    rcases hX with ⟨⟨rfl, hn1⟩ | ⟨rfl, ho1, hn2⟩, e9⟩ <;> rw [e9]
    refine x_ct2 Z E q307 q319 rfl (by decide) (fun q9 => ?_)
    refine x_astore (L' := [(4, _), (0, _), (1, _), (2, _), (3, _)]) Z dL_count_14 (Nat.le_of_ble_eq_true rfl) rfl ?_
    refine x_iconst Z dL_count_16 ?_
    exact x_iret Z E (by first | exact ⟨0, rfl, dT.of hP9.1 hP9.2 hS9 rfl hf9 hd⟩ | exact ⟨1, rfl, Or.inl ⟨rfl, hn1, rfl⟩⟩ | exact ⟨2, rfl, Or.inr (Or.inl ⟨rfl, ho1, hn2, rfl⟩)⟩) dL_count_17 (Nat.le_of_ble_eq_true rfl) (Nat.le_of_ble_eq_true rfl)
    refine x_ct3 Z E q307 (by decide) q308 q228 rfl (by decide) (fun q9 => ?_)
    refine x_astore (L' := [(4, _), (0, _), (1, _), (2, _), (3, _)]) Z dL_count_18 (Nat.le_of_ble_eq_true rfl) rfl ?_
    refine x_iconst Z dL_count_20 ?_
    exact x_iret Z E (by first | exact ⟨0, rfl, dT.of hP9.1 hP9.2 hS9 rfl hf9 hd⟩ | exact ⟨1, rfl, Or.inl ⟨rfl, hn1, rfl⟩⟩ | exact ⟨2, rfl, Or.inr (Or.inl ⟨rfl, ho1, hn2, rfl⟩)⟩) dL_count_21 (Nat.le_of_ble_eq_true rfl) (Nat.le_of_ble_eq_true rfl)
  obtain ⟨⟨rfl, e9⟩, hP9⟩ := hR
  refine x_ew e9 ?_
  have hS9 := hS
  have hf9 : fr (kP K) w w := fr.rf
  have ho9 := ho
  simp only [Option.toList_some, Option.toList_none, List.cons_append, List.nil_append]
  refine x_i2l Z dL_count_7 ?_
  refine x_putfN (ci := 4) (j := 0) (C := RX3) (T := TX3) (N := 2) (fs' := [_, _]) Z tyX3 tyX3_ok nmX3 inX3g rfl (by decide) q297 rfl rfl rfl rfl rfl dL_count_8 (by assumption) (by exact Nat.le_of_ble_eq_true rfl) rfl ?_
  refine x_goto Z 22 dL_count_11 (by decide) ?_
  refine x_iconst Z dL_count_22 ?_
  exact x_iret Z E (by first | exact ⟨0, rfl, dT.of hP9.1 hP9.2 hS9 rfl hf9 hd⟩ | exact ⟨1, rfl, Or.inl ⟨rfl, hn1, rfl⟩⟩ | exact ⟨2, rfl, Or.inr (Or.inl ⟨rfl, ho1, hn2, rfl⟩)⟩) dL_count_23 (Nat.le_of_ble_eq_true rfl) (Nat.le_of_ble_eq_true rfl)
abbrev rmc_L_countKind : Room := { frames := 8, cells := 2, slots := 12, locals := 144 }
set_option maxRecDepth 100000 in
theorem c_L_countKind {l : Launch} {s0 : State} {G : gK} {w : wd} (h0 : gS0 s0) (htr : l.stackTraces = false) {K : kA} {M : kM} {t : Int} {q : Int} {oc : Nat} {yo : Int64} {sv : Value} (hS : kS G w K M) (ht : inr t) (hq : inr q) (ho : w oc = some (eO 4 [.long yo, sv])) (hd : ¬ kP K oc) : gM l s0 G yL_countKind [Cond.codeWith yL_countKind cL_countKind 5 (some .int) [(0, 11, 14, 19), (0, 11, 18, 21)]] rmc_L_countKind [rv K.1, iv t, iv q, rv oc] w (fun v w' => ∃ z : Int, v = some (iv z) ∧ dT G w K M oc (0 ≤ t ∧ t < 3) (0 ≤ q ∧ q < 31) (fun y => y = (zI (forI (cst (fun j => decide (kin (M.2.1 t j) = q))) 0 (M.1 t) 0)).toInt64) sv z w') (noX) := by
  refine g_ofH h0 htr (by decide +kernel) (Nat.le_of_ble_eq_true rfl) ?_
  intro b Z0 E
  have Z : gAm b l s0 G cL_countKind RL 5 rmc_L_countKind := Z0
  refine x_el (L' := [(0, rv K.1), (1, iv t), (2, iv q), (3, rv oc)]) rfl ?_
  refine x_aload_n Z dL_countKind_0 rfl rfl ?_
  refine x_aload_n Z dL_countKind_1 rfl rfl ?_
  refine x_iload_n Z dL_countKind_2 rfl rfl ?_
  refine x_iload_n Z dL_countKind_3 rfl rfl ?_
  refine x_callVx (ci := 3) (C := RX2) (T := TX2) (N := 4) Z okX2_countKind q899 q900 q901 rfl dL_countKind_4 (c_X2_countKind h0 htr hS (by assumption) (by assumption)) hS.1 ⟨Nat.le_of_ble_eq_true rfl, Nat.le_of_ble_eq_true rfl, Nat.le_of_ble_eq_true rfl, Nat.le_of_ble_eq_true rfl⟩ rfl rfl (Nat.le_of_ble_eq_true rfl) (fun X w9 hX => ?_) (fun v9 w9 hR => ?_)
  ·
    rcases hX with ⟨⟨rfl, hn1⟩ | ⟨rfl, ho1, hn2⟩, e9⟩ <;> rw [e9]
    refine x_ct2 Z E q307 q319 rfl (by decide) (fun q9 => ?_)
    refine x_astore (L' := [(4, _), (0, _), (1, _), (2, _), (3, _)]) Z dL_countKind_14 (Nat.le_of_ble_eq_true rfl) rfl ?_
    refine x_iconst Z dL_countKind_16 ?_
    exact x_iret Z E (by first | exact ⟨0, rfl, dT.of hP9.1 hP9.2 hS9 rfl hf9 hd⟩ | exact ⟨1, rfl, Or.inl ⟨rfl, hn1, rfl⟩⟩ | exact ⟨2, rfl, Or.inr (Or.inl ⟨rfl, ho1, hn2, rfl⟩)⟩) dL_countKind_17 (Nat.le_of_ble_eq_true rfl) (Nat.le_of_ble_eq_true rfl)
    refine x_ct3 Z E q307 (by decide) q308 q228 rfl (by decide) (fun q9 => ?_)
    refine x_astore (L' := [(4, _), (0, _), (1, _), (2, _), (3, _)]) Z dL_countKind_18 (Nat.le_of_ble_eq_true rfl) rfl ?_
    refine x_iconst Z dL_countKind_20 ?_
    exact x_iret Z E (by first | exact ⟨0, rfl, dT.of hP9.1 hP9.2 hS9 rfl hf9 hd⟩ | exact ⟨1, rfl, Or.inl ⟨rfl, hn1, rfl⟩⟩ | exact ⟨2, rfl, Or.inr (Or.inl ⟨rfl, ho1, hn2, rfl⟩)⟩) dL_countKind_21 (Nat.le_of_ble_eq_true rfl) (Nat.le_of_ble_eq_true rfl)
  obtain ⟨⟨rfl, e9⟩, hP9⟩ := hR
  refine x_ew e9 ?_
  have hS9 := hS
  have hf9 : fr (kP K) w w := fr.rf
  have ho9 := ho
  simp only [Option.toList_some, Option.toList_none, List.cons_append, List.nil_append]
  refine x_i2l Z dL_countKind_7 ?_
  refine x_putfN (ci := 4) (j := 0) (C := RX3) (T := TX3) (N := 2) (fs' := [_, _]) Z tyX3 tyX3_ok nmX3 inX3g rfl (by decide) q297 rfl rfl rfl rfl rfl dL_countKind_8 (by assumption) (by exact Nat.le_of_ble_eq_true rfl) rfl ?_
  refine x_goto Z 22 dL_countKind_11 (by decide) ?_
  refine x_iconst Z dL_countKind_22 ?_
  exact x_iret Z E (by first | exact ⟨0, rfl, dT.of hP9.1 hP9.2 hS9 rfl hf9 hd⟩ | exact ⟨1, rfl, Or.inl ⟨rfl, hn1, rfl⟩⟩ | exact ⟨2, rfl, Or.inr (Or.inl ⟨rfl, ho1, hn2, rfl⟩)⟩) dL_countKind_23 (Nat.le_of_ble_eq_true rfl) (Nat.le_of_ble_eq_true rfl)
abbrev rmc_L_cut : Room := { frames := 8, cells := 2, slots := 12, locals := 145 }
set_option maxRecDepth 100000 in
theorem c_L_cut {l : Launch} {s0 : State} {G : gK} {w : wd} (h0 : gS0 s0) (htr : l.stackTraces = false) {K : kA} {M : kM} {t : Int} {f : Int} {g : Int} {oc : Nat} {yo : Int64} {sv : Value} (hS : kS G w K M) (ht : inr t) (hf : inr f) (hg : inr g) (ho : w oc = some (eO 4 [.long yo, sv])) (hd : ¬ kP K oc) : gM l s0 G yL_cut [Cond.codeWith yL_cut cL_cut 6 (some .int) [(0, 13, 16, 19)]] rmc_L_cut [rv K.1, iv t, iv f, iv g, rv oc] w (fun v w' => ∃ z : Int, v = some (iv z) ∧ dA G w K M oc ((0 ≤ t ∧ t < 3) ∧ 0 ≤ f ∧ f ≤ g ∧ g ≤ M.1 t) (True) (acCut M.2.1 t f g) sv z w') (noX) := by
  refine g_ofH h0 htr (by decide +kernel) (Nat.le_of_ble_eq_true rfl) ?_
  intro b Z0 E
  have Z : gAm b l s0 G cL_cut RL 6 rmc_L_cut := Z0
  refine x_el (L' := [(0, rv K.1), (1, iv t), (2, iv f), (3, iv g), (4, rv oc)]) rfl ?_
  refine x_aload Z dL_cut_0 rfl ?_
  refine x_aload_n Z dL_cut_2 rfl rfl ?_
  refine x_iload_n Z dL_cut_3 rfl rfl ?_
  refine x_iload_n Z dL_cut_4 rfl rfl ?_
  refine x_iload_n Z dL_cut_5 rfl rfl ?_
  refine x_callVx (ci := 3) (C := RX2) (T := TX2) (N := 4) Z okX2_cut q439 q440 q441 rfl dL_cut_6 (c_X2_cut h0 htr hS (by assumption) (by assumption) (by assumption)) hS.1 ⟨Nat.le_of_ble_eq_true rfl, Nat.le_of_ble_eq_true rfl, Nat.le_of_ble_eq_true rfl, Nat.le_of_ble_eq_true rfl⟩ rfl rfl (Nat.le_of_ble_eq_true rfl) (fun X w9 hX => ?_) (fun v9 w9 hR => ?_)
  ·
    obtain ⟨rfl, e9, hn1⟩ := hX
    rw [e9]
    refine x_ct1 Z E q307 q319 rfl (by decide) (fun q9 => ?_)
    refine x_astore (L' := [(5, _), (0, _), (1, _), (2, _), (3, _), (4, _)]) Z dL_cut_16 (Nat.le_of_ble_eq_true rfl) rfl ?_
    refine x_iconst Z dL_cut_18 ?_
    exact x_iret Z E (by first | exact ⟨0, rfl, dA.of hP9 trivial hS9 hd9 hf9 hd⟩ | exact ⟨1, rfl, Or.inl ⟨rfl, hn1, rfl⟩⟩ | exact ⟨2, rfl, Or.inr (Or.inl ⟨rfl, ho1, hn2, rfl⟩)⟩) dL_cut_19 (Nat.le_of_ble_eq_true rfl) (Nat.le_of_ble_eq_true rfl)
  obtain ⟨⟨z, rfl, M9, hS9, hd9, hf9⟩, hP9⟩ := hR
  have ho9 := hf9.at hd ho
  simp only [Option.toList_some, Option.toList_none, List.cons_append, List.nil_append]
  refine x_i2l Z dL_cut_9 ?_
  refine x_putfN (ci := 4) (j := 0) (C := RX3) (T := TX3) (N := 2) (fs' := [_, _]) Z tyX3 tyX3_ok nmX3 inX3g rfl (by decide) q297 rfl rfl rfl rfl rfl dL_cut_10 (by assumption) (by exact Nat.le_of_ble_eq_true rfl) rfl ?_
  refine x_goto Z 20 dL_cut_13 (by decide) ?_
  refine x_iconst Z dL_cut_20 ?_
  exact x_iret Z E (by first | exact ⟨0, rfl, dA.of hP9 trivial hS9 hd9 hf9 hd⟩ | exact ⟨1, rfl, Or.inl ⟨rfl, hn1, rfl⟩⟩ | exact ⟨2, rfl, Or.inr (Or.inl ⟨rfl, ho1, hn2, rfl⟩)⟩) dL_cut_21 (Nat.le_of_ble_eq_true rfl) (Nat.le_of_ble_eq_true rfl)
abbrev rmc_L_cuts : Room := { frames := 8, cells := 1, slots := 6, locals := 142 }
set_option maxRecDepth 100000 in
theorem c_L_cuts {l : Launch} {s0 : State} {G : gK} {w : wd} (h0 : gS0 s0) (htr : l.stackTraces = false) {K : kA} {M : kM} {t : Int} {oc : Nat} {yo : Int64} {sv : Value} (hS : kS G w K M) (ht : inr t) (ho : w oc = some (eO 4 [.long yo, sv])) (hd : ¬ kP K oc) : gM l s0 G yL_cuts [Cond.codeWith yL_cuts cL_cuts 4 (some .int) [(0, 10, 13, 19)]] rmc_L_cuts [rv K.1, iv t, rv oc] w (fun v w' => ∃ z : Int, v = some (iv z) ∧ dT G w K M oc (0 ≤ t ∧ t < 3) (True) (fun y => y = (zI (bAnd (beg (M.1 t) (M.2.1 t)) (-2))).toInt64) sv z w') (noX) := by
  refine g_ofH h0 htr (by decide +kernel) (Nat.le_of_ble_eq_true rfl) ?_
  intro b Z0 E
  have Z : gAm b l s0 G cL_cuts RL 4 rmc_L_cuts := Z0
  refine x_el (L' := [(0, rv K.1), (1, iv t), (2, rv oc)]) rfl ?_
  refine x_aload_n Z dL_cuts_0 rfl rfl ?_
  refine x_aload_n Z dL_cuts_1 rfl rfl ?_
  refine x_iload_n Z dL_cuts_2 rfl rfl ?_
  refine x_callVx (ci := 3) (C := RX2) (T := TX2) (N := 4) Z okX2_cuts q984 q985 q986 rfl dL_cuts_3 (c_X2_cuts h0 htr hS (by assumption)) hS.1 ⟨Nat.le_of_ble_eq_true rfl, Nat.le_of_ble_eq_true rfl, Nat.le_of_ble_eq_true rfl, Nat.le_of_ble_eq_true rfl⟩ rfl rfl (Nat.le_of_ble_eq_true rfl) (fun X w9 hX => ?_) (fun v9 w9 hR => ?_)
  ·
    obtain ⟨rfl, e9, hn1⟩ := hX
    rw [e9]
    refine x_ct1 Z E q307 q319 rfl (by decide) (fun q9 => ?_)
    refine x_astore_n (L' := [(3, _), (0, _), (1, _), (2, _)]) Z dL_cuts_13 rfl (Nat.le_of_ble_eq_true rfl) rfl ?_
    refine x_iconst Z dL_cuts_14 ?_
    exact x_iret Z E (by first | exact ⟨0, rfl, dT.of hP9 trivial hS9 rfl hf9 hd⟩ | exact ⟨1, rfl, Or.inl ⟨rfl, hn1, rfl⟩⟩ | exact ⟨2, rfl, Or.inr (Or.inl ⟨rfl, ho1, hn2, rfl⟩)⟩) dL_cuts_15 (Nat.le_of_ble_eq_true rfl) (Nat.le_of_ble_eq_true rfl)
  obtain ⟨⟨rfl, e9⟩, hP9⟩ := hR
  refine x_ew e9 ?_
  have hS9 := hS
  have hf9 : fr (kP K) w w := fr.rf
  have ho9 := ho
  simp only [Option.toList_some, Option.toList_none, List.cons_append, List.nil_append]
  refine x_i2l Z dL_cuts_6 ?_
  refine x_putfN (ci := 4) (j := 0) (C := RX3) (T := TX3) (N := 2) (fs' := [_, _]) Z tyX3 tyX3_ok nmX3 inX3g rfl (by decide) q297 rfl rfl rfl rfl rfl dL_cuts_7 (by assumption) (by exact Nat.le_of_ble_eq_true rfl) rfl ?_
  refine x_goto Z 16 dL_cuts_10 (by decide) ?_
  refine x_iconst Z dL_cuts_16 ?_
  exact x_iret Z E (by first | exact ⟨0, rfl, dT.of hP9 trivial hS9 rfl hf9 hd⟩ | exact ⟨1, rfl, Or.inl ⟨rfl, hn1, rfl⟩⟩ | exact ⟨2, rfl, Or.inr (Or.inl ⟨rfl, ho1, hn2, rfl⟩)⟩) dL_cuts_17 (Nat.le_of_ble_eq_true rfl) (Nat.le_of_ble_eq_true rfl)
abbrev rmc_L_differ : Room := { frames := 8, cells := 3, slots := 18, locals := 144 }
set_option maxRecDepth 100000 in
theorem c_L_differ {l : Launch} {s0 : State} {G : gK} {w : wd} (h0 : gS0 s0) (htr : l.stackTraces = false) {K : kA} {M : kM} {q : Int} {u : Int} {f : Int} {oc : Nat} {yo : Int64} {sv : Value} (hS : kS G w K M) (hq : inr q) (hu : inr u) (hf : inr f) (ho : w oc = some (eO 4 [.long yo, sv])) (hd : ¬ kP K oc) : gM l s0 G yL_differ [Cond.codeWith yL_differ cL_differ 6 (some .int) [(0, 13, 16, 21)]] rmc_L_differ [rv K.1, iv q, iv u, iv f, rv oc] w (fun v w' => ∃ z : Int, v = some (iv z) ∧ dQ w oc z (((0 ≤ q ∧ q < 14)) ∧ (0 ≤ u ∧ u < 14) ∧ 0 ≤ f ∧ f < 256) ((zI ((if findI (fun c => so c q != so c u) f 256 < 256 then findI (fun c => so c q != so c u) f 256 else -1))).toInt64) sv w') (noX) := by
  refine g_ofH h0 htr (by decide +kernel) (Nat.le_of_ble_eq_true rfl) ?_
  intro b Z0 E
  have Z : gAm b l s0 G cL_differ RL 6 rmc_L_differ := Z0
  refine x_el (L' := [(0, rv K.1), (1, iv q), (2, iv u), (3, iv f), (4, rv oc)]) rfl ?_
  refine x_aload Z dL_differ_0 rfl ?_
  refine x_aload_n Z dL_differ_2 rfl rfl ?_
  refine x_iload_n Z dL_differ_3 rfl rfl ?_
  refine x_iload_n Z dL_differ_4 rfl rfl ?_
  refine x_iload_n Z dL_differ_5 rfl rfl ?_
  refine x_callVx (ci := 3) (C := RX2) (T := TX2) (N := 4) Z okX2_differ q578 q579 q580 rfl dL_differ_6 (c_X2_differ h0 htr hS (by assumption) (by assumption) (by assumption)) hS.1 ⟨Nat.le_of_ble_eq_true rfl, Nat.le_of_ble_eq_true rfl, Nat.le_of_ble_eq_true rfl, Nat.le_of_ble_eq_true rfl⟩ rfl rfl (Nat.le_of_ble_eq_true rfl) (fun X w9 hX => ?_) (fun v9 w9 hR => ?_)
  ·
    obtain ⟨rfl, e9, hnP⟩ := hX
    rw [e9]
    refine x_ct1 Z E q308 q228 rfl (by decide) (fun q9 => ?_)
    refine x_astore (L' := [(5, _), (0, _), (1, _), (2, _), (3, _), (4, _)]) Z dL_differ_16 (Nat.le_of_ble_eq_true rfl) rfl ?_
    refine x_iconst Z dL_differ_18 ?_
    exact x_iret Z E (by first | exact ⟨0, rfl, Or.inr ⟨rfl, hP9, rfl⟩⟩ | exact ⟨1, rfl, Or.inl ⟨rfl, hnP, rfl⟩⟩) dL_differ_19 (Nat.le_of_ble_eq_true rfl) (Nat.le_of_ble_eq_true rfl)
  obtain ⟨⟨rfl, e9⟩, hP9⟩ := hR
  refine x_ew e9 ?_
  have hS9 := hS
  have hf9 : fr (kP K) w w := fr.rf
  have ho9 := ho
  simp only [Option.toList_some, Option.toList_none, List.cons_append, List.nil_append]
  refine x_i2l Z dL_differ_9 ?_
  refine x_putfN (ci := 4) (j := 0) (C := RX3) (T := TX3) (N := 2) (fs' := [_, _]) Z tyX3 tyX3_ok nmX3 inX3g rfl (by decide) q297 rfl rfl rfl rfl rfl dL_differ_10 (by assumption) (by exact Nat.le_of_ble_eq_true rfl) rfl ?_
  refine x_goto Z 20 dL_differ_13 (by decide) ?_
  refine x_iconst Z dL_differ_20 ?_
  exact x_iret Z E (by first | exact ⟨0, rfl, Or.inr ⟨rfl, hP9, rfl⟩⟩ | exact ⟨1, rfl, Or.inl ⟨rfl, hnP, rfl⟩⟩) dL_differ_21 (Nat.le_of_ble_eq_true rfl) (Nat.le_of_ble_eq_true rfl)
abbrev rmc_L_drop : Room := { frames := 8, cells := 2, slots := 12, locals := 145 }
set_option maxRecDepth 100000 in
theorem c_L_drop {l : Launch} {s0 : State} {G : gK} {w : wd} (h0 : gS0 s0) (htr : l.stackTraces = false) {K : kA} {M : kM} {t : Int} {p : Int} {oc : Nat} {yo : Int64} {sv : Value} (hS : kS G w K M) (ht : inr t) (hp : inr p) (ho : w oc = some (eO 4 [.long yo, sv])) (hd : ¬ kP K oc) : gM l s0 G yL_drop [Cond.codeWith yL_drop cL_drop 5 (some .int) [(0, 11, 14, 19)]] rmc_L_drop [rv K.1, iv t, iv p, rv oc] w (fun v w' => ∃ z : Int, v = some (iv z) ∧ dA G w K M oc ((0 ≤ t ∧ t < 3) ∧ 0 ≤ p ∧ p < M.1 t) (True) (acDrop M.1 M.2.1 t p) sv z w') (noX) := by
  refine g_ofH h0 htr (by decide +kernel) (Nat.le_of_ble_eq_true rfl) ?_
  intro b Z0 E
  have Z : gAm b l s0 G cL_drop RL 5 rmc_L_drop := Z0
  refine x_el (L' := [(0, rv K.1), (1, iv t), (2, iv p), (3, rv oc)]) rfl ?_
  refine x_aload_n Z dL_drop_0 rfl rfl ?_
  refine x_aload_n Z dL_drop_1 rfl rfl ?_
  refine x_iload_n Z dL_drop_2 rfl rfl ?_
  refine x_iload_n Z dL_drop_3 rfl rfl ?_
  refine x_callVx (ci := 3) (C := RX2) (T := TX2) (N := 4) Z okX2_drop q377 q378 q379 rfl dL_drop_4 (c_X2_drop h0 htr hS (by assumption) (by assumption)) hS.1 ⟨Nat.le_of_ble_eq_true rfl, Nat.le_of_ble_eq_true rfl, Nat.le_of_ble_eq_true rfl, Nat.le_of_ble_eq_true rfl⟩ rfl rfl (Nat.le_of_ble_eq_true rfl) (fun X w9 hX => ?_) (fun v9 w9 hR => ?_)
  ·
    obtain ⟨rfl, e9, hn1⟩ := hX
    rw [e9]
    refine x_ct1 Z E q307 q319 rfl (by decide) (fun q9 => ?_)
    refine x_astore (L' := [(4, _), (0, _), (1, _), (2, _), (3, _)]) Z dL_drop_14 (Nat.le_of_ble_eq_true rfl) rfl ?_
    refine x_iconst Z dL_drop_16 ?_
    exact x_iret Z E (by first | exact ⟨0, rfl, dA.of hP9 trivial hS9 hd9 hf9 hd⟩ | exact ⟨1, rfl, Or.inl ⟨rfl, hn1, rfl⟩⟩ | exact ⟨2, rfl, Or.inr (Or.inl ⟨rfl, ho1, hn2, rfl⟩)⟩) dL_drop_17 (Nat.le_of_ble_eq_true rfl) (Nat.le_of_ble_eq_true rfl)
  obtain ⟨⟨z, rfl, M9, hS9, hd9, hf9⟩, hP9⟩ := hR
  have ho9 := hf9.at hd ho
  simp only [Option.toList_some, Option.toList_none, List.cons_append, List.nil_append]
  refine x_i2l Z dL_drop_7 ?_
  refine x_putfN (ci := 4) (j := 0) (C := RX3) (T := TX3) (N := 2) (fs' := [_, _]) Z tyX3 tyX3_ok nmX3 inX3g rfl (by decide) q297 rfl rfl rfl rfl rfl dL_drop_8 (by assumption) (by exact Nat.le_of_ble_eq_true rfl) rfl ?_
  refine x_goto Z 18 dL_drop_11 (by decide) ?_
  refine x_iconst Z dL_drop_18 ?_
  exact x_iret Z E (by first | exact ⟨0, rfl, dA.of hP9 trivial hS9 hd9 hf9 hd⟩ | exact ⟨1, rfl, Or.inl ⟨rfl, hn1, rfl⟩⟩ | exact ⟨2, rfl, Or.inr (Or.inl ⟨rfl, ho1, hn2, rfl⟩)⟩) dL_drop_19 (Nat.le_of_ble_eq_true rfl) (Nat.le_of_ble_eq_true rfl)
abbrev rmc_L_fault : Room := { frames := 8, cells := 1, slots := 6, locals := 142 }
set_option maxRecDepth 100000 in
theorem c_L_fault {l : Launch} {s0 : State} {G : gK} {w : wd} (h0 : gS0 s0) (htr : l.stackTraces = false) {K : kA} {M : kM} {t : Int} {oc : Nat} {yo : Int64} {sv : Value} (hS : kS G w K M) (ht : inr t) (ho : w oc = some (eO 4 [.long yo, sv])) (hd : ¬ kP K oc) : gM l s0 G yL_fault [Cond.codeWith yL_fault cL_fault 4 (some .int) [(0, 10, 13, 19)]] rmc_L_fault [rv K.1, iv t, rv oc] w (fun v w' => ∃ z : Int, v = some (iv z) ∧ dT G w K M oc (0 ≤ t ∧ t < 3) (True) (fun y => y = (zI (if findI (fun j => !so (M.2.1 t j) (cond (decide (j = 0)) 11 12)) 0 (M.1 t) < M.1 t then findI (fun j => !so (M.2.1 t j) (cond (decide (j = 0)) 11 12)) 0 (M.1 t) else if M.1 t = 0 then 0 else -1)).toInt64) sv z w') (noX) := by
  refine g_ofH h0 htr (by decide +kernel) (Nat.le_of_ble_eq_true rfl) ?_
  intro b Z0 E
  have Z : gAm b l s0 G cL_fault RL 4 rmc_L_fault := Z0
  refine x_el (L' := [(0, rv K.1), (1, iv t), (2, rv oc)]) rfl ?_
  refine x_aload_n Z dL_fault_0 rfl rfl ?_
  refine x_aload_n Z dL_fault_1 rfl rfl ?_
  refine x_iload_n Z dL_fault_2 rfl rfl ?_
  refine x_callVx (ci := 3) (C := RX2) (T := TX2) (N := 4) Z okX2_fault q934 q935 q936 rfl dL_fault_3 (c_X2_fault h0 htr hS (by assumption)) hS.1 ⟨Nat.le_of_ble_eq_true rfl, Nat.le_of_ble_eq_true rfl, Nat.le_of_ble_eq_true rfl, Nat.le_of_ble_eq_true rfl⟩ rfl rfl (Nat.le_of_ble_eq_true rfl) (fun X w9 hX => ?_) (fun v9 w9 hR => ?_)
  ·
    obtain ⟨rfl, e9, hn1⟩ := hX
    rw [e9]
    refine x_ct1 Z E q307 q319 rfl (by decide) (fun q9 => ?_)
    refine x_astore_n (L' := [(3, _), (0, _), (1, _), (2, _)]) Z dL_fault_13 rfl (Nat.le_of_ble_eq_true rfl) rfl ?_
    refine x_iconst Z dL_fault_14 ?_
    exact x_iret Z E (by first | exact ⟨0, rfl, dT.of hP9 trivial hS9 rfl hf9 hd⟩ | exact ⟨1, rfl, Or.inl ⟨rfl, hn1, rfl⟩⟩ | exact ⟨2, rfl, Or.inr (Or.inl ⟨rfl, ho1, hn2, rfl⟩)⟩) dL_fault_15 (Nat.le_of_ble_eq_true rfl) (Nat.le_of_ble_eq_true rfl)
  obtain ⟨⟨rfl, e9⟩, hP9⟩ := hR
  refine x_ew e9 ?_
  have hS9 := hS
  have hf9 : fr (kP K) w w := fr.rf
  have ho9 := ho
  simp only [Option.toList_some, Option.toList_none, List.cons_append, List.nil_append]
  refine x_i2l Z dL_fault_6 ?_
  refine x_putfN (ci := 4) (j := 0) (C := RX3) (T := TX3) (N := 2) (fs' := [_, _]) Z tyX3 tyX3_ok nmX3 inX3g rfl (by decide) q297 rfl rfl rfl rfl rfl dL_fault_7 (by assumption) (by exact Nat.le_of_ble_eq_true rfl) rfl ?_
  refine x_goto Z 16 dL_fault_10 (by decide) ?_
  refine x_iconst Z dL_fault_16 ?_
  exact x_iret Z E (by first | exact ⟨0, rfl, dT.of hP9 trivial hS9 rfl hf9 hd⟩ | exact ⟨1, rfl, Or.inl ⟨rfl, hn1, rfl⟩⟩ | exact ⟨2, rfl, Or.inr (Or.inl ⟨rfl, ho1, hn2, rfl⟩)⟩) dL_fault_17 (Nat.le_of_ble_eq_true rfl) (Nat.le_of_ble_eq_true rfl)
abbrev rmc_L_fewest : Room := { frames := 8, cells := 1, slots := 6, locals := 142 }
set_option maxRecDepth 100000 in
theorem c_L_fewest {l : Launch} {s0 : State} {G : gK} {w : wd} (h0 : gS0 s0) (htr : l.stackTraces = false) {K : kA} {M : kM} {t : Int} {oc : Nat} {yo : Int64} {sv : Value} (hS : kS G w K M) (ht : inr t) (ho : w oc = some (eO 4 [.long yo, sv])) (hd : ¬ kP K oc) : gM l s0 G yL_fewest [Cond.codeWith yL_fewest cL_fewest 4 (some .int) [(0, 10, 13, 19)]] rmc_L_fewest [rv K.1, iv t, rv oc] w (fun v w' => ∃ z : Int, v = some (iv z) ∧ dT G w K M oc (0 ≤ t ∧ t < 3) (True) (fun y => ∃ z : Int, (∃ B : Int → Int, fwP (M.1 t) (M.2.1 t) B ∧ z = B (M.1 t)) ∧ y = (zI z).toInt64) sv z w') (noX) := by
  refine g_ofH h0 htr (by decide +kernel) (Nat.le_of_ble_eq_true rfl) ?_
  intro b Z0 E
  have Z : gAm b l s0 G cL_fewest RL 4 rmc_L_fewest := Z0
  refine x_el (L' := [(0, rv K.1), (1, iv t), (2, rv oc)]) rfl ?_
  refine x_aload_n Z dL_fewest_0 rfl rfl ?_
  refine x_aload_n Z dL_fewest_1 rfl rfl ?_
  refine x_iload_n Z dL_fewest_2 rfl rfl ?_
  refine x_callVx (ci := 3) (C := RX2) (T := TX2) (N := 4) Z okX2_fewest q1000 q1001 q1002 rfl dL_fewest_3 (c_X2_fewest h0 htr hS (by assumption)) hS.1 ⟨Nat.le_of_ble_eq_true rfl, Nat.le_of_ble_eq_true rfl, Nat.le_of_ble_eq_true rfl, Nat.le_of_ble_eq_true rfl⟩ rfl rfl (Nat.le_of_ble_eq_true rfl) (fun X w9 hX => ?_) (fun v9 w9 hR => ?_)
  ·
    obtain ⟨rfl, e9, hn1⟩ := hX
    rw [e9]
    refine x_ct1 Z E q307 q319 rfl (by decide) (fun q9 => ?_)
    refine x_astore_n (L' := [(3, _), (0, _), (1, _), (2, _)]) Z dL_fewest_13 rfl (Nat.le_of_ble_eq_true rfl) rfl ?_
    refine x_iconst Z dL_fewest_14 ?_
    exact x_iret Z E (by first | exact ⟨0, rfl, dT.of hP9 trivial hS9 ⟨_, hz9, rfl⟩ hf9 hd⟩ | exact ⟨1, rfl, Or.inl ⟨rfl, hn1, rfl⟩⟩ | exact ⟨2, rfl, Or.inr (Or.inl ⟨rfl, ho1, hn2, rfl⟩)⟩) dL_fewest_15 (Nat.le_of_ble_eq_true rfl) (Nat.le_of_ble_eq_true rfl)
  obtain ⟨⟨z, rfl, hz9, hS9, hf9⟩, hP9⟩ := hR
  have ho9 := hf9.at hd ho
  simp only [Option.toList_some, Option.toList_none, List.cons_append, List.nil_append]
  refine x_i2l Z dL_fewest_6 ?_
  refine x_putfN (ci := 4) (j := 0) (C := RX3) (T := TX3) (N := 2) (fs' := [_, _]) Z tyX3 tyX3_ok nmX3 inX3g rfl (by decide) q297 rfl rfl rfl rfl rfl dL_fewest_7 (by assumption) (by exact Nat.le_of_ble_eq_true rfl) rfl ?_
  refine x_goto Z 16 dL_fewest_10 (by decide) ?_
  refine x_iconst Z dL_fewest_16 ?_
  exact x_iret Z E (by first | exact ⟨0, rfl, dT.of hP9 trivial hS9 ⟨_, hz9, rfl⟩ hf9 hd⟩ | exact ⟨1, rfl, Or.inl ⟨rfl, hn1, rfl⟩⟩ | exact ⟨2, rfl, Or.inr (Or.inl ⟨rfl, ho1, hn2, rfl⟩)⟩) dL_fewest_17 (Nat.le_of_ble_eq_true rfl) (Nat.le_of_ble_eq_true rfl)
abbrev rmc_L_fill : Room := { frames := 8, cells := 3, slots := 18, locals := 147 }
set_option maxRecDepth 100000 in
theorem c_L_fill {l : Launch} {s0 : State} {G : gK} {w : wd} (h0 : gS0 s0) (htr : l.stackTraces = false) {K : kA} {M : kM} {t : Int} {f : Int} {m : Int} {oc : Nat} {yo : Int64} {sv : Value} (hS : kS G w K M) (ht : inr t) (hf : inr f) (hm : inr m) (ho : w oc = some (eO 4 [.long yo, sv])) (hd : ¬ kP K oc) : gM l s0 G yL_fill [Cond.codeWith yL_fill cL_fill 6 (some .int) [(0, 13, 16, 19), (0, 13, 20, 21)]] rmc_L_fill [rv K.1, iv t, iv f, iv m, rv oc] w (fun v w' => ∃ z : Int, v = some (iv z) ∧ dA G w K M oc (0 ≤ t ∧ t < 3) ((0 ≤ f ∧ f < 256) ∧ 0 ≤ m ∧ m ≤ 30 ∧ f + m ≤ 256) (acFill M.1 t f m) sv z w') (noX) := by
  refine g_ofH h0 htr (by decide +kernel) (Nat.le_of_ble_eq_true rfl) ?_
  intro b Z0 E
  have Z : gAm b l s0 G cL_fill RL 6 rmc_L_fill := Z0
  refine x_el (L' := [(0, rv K.1), (1, iv t), (2, iv f), (3, iv m), (4, rv oc)]) rfl ?_
  refine x_aload Z dL_fill_0 rfl ?_
  refine x_aload_n Z dL_fill_2 rfl rfl ?_
  refine x_iload_n Z dL_fill_3 rfl rfl ?_
  refine x_iload_n Z dL_fill_4 rfl rfl ?_
  refine x_iload_n Z dL_fill_5 rfl rfl ?_
  refine x_callVx (ci := 3) (C := RX2) (T := TX2) (N := 4) Z okX2_fill q432 q433 q434 rfl dL_fill_6 (c_X2_fill h0 htr hS (by assumption) (by assumption) (by assumption)) hS.1 ⟨Nat.le_of_ble_eq_true rfl, Nat.le_of_ble_eq_true rfl, Nat.le_of_ble_eq_true rfl, Nat.le_of_ble_eq_true rfl⟩ rfl rfl (Nat.le_of_ble_eq_true rfl) (fun X w9 hX => ?_) (fun v9 w9 hR => ?_)
  ·
    rcases hX with ⟨⟨rfl, hn1⟩ | ⟨rfl, ho1, hn2⟩, e9⟩ <;> rw [e9]
    refine x_ct2 Z E q307 q319 rfl (by decide) (fun q9 => ?_)
    refine x_astore (L' := [(5, _), (0, _), (1, _), (2, _), (3, _), (4, _)]) Z dL_fill_16 (Nat.le_of_ble_eq_true rfl) rfl ?_
    refine x_iconst Z dL_fill_18 ?_
    exact x_iret Z E (by first | exact ⟨0, rfl, dA.of hP9.1 hP9.2 hS9 hd9 hf9 hd⟩ | exact ⟨1, rfl, Or.inl ⟨rfl, hn1, rfl⟩⟩ | exact ⟨2, rfl, Or.inr (Or.inl ⟨rfl, ho1, hn2, rfl⟩)⟩) dL_fill_19 (Nat.le_of_ble_eq_true rfl) (Nat.le_of_ble_eq_true rfl)
    refine x_ct3 Z E q307 (by decide) q308 q228 rfl (by decide) (fun q9 => ?_)
    refine x_astore (L' := [(5, _), (0, _), (1, _), (2, _), (3, _), (4, _)]) Z dL_fill_20 (Nat.le_of_ble_eq_true rfl) rfl ?_
    refine x_iconst Z dL_fill_22 ?_
    exact x_iret Z E (by first | exact ⟨0, rfl, dA.of hP9.1 hP9.2 hS9 hd9 hf9 hd⟩ | exact ⟨1, rfl, Or.inl ⟨rfl, hn1, rfl⟩⟩ | exact ⟨2, rfl, Or.inr (Or.inl ⟨rfl, ho1, hn2, rfl⟩)⟩) dL_fill_23 (Nat.le_of_ble_eq_true rfl) (Nat.le_of_ble_eq_true rfl)
  obtain ⟨⟨z, rfl, M9, hS9, hd9, hf9⟩, hP9⟩ := hR
  have ho9 := hf9.at hd ho
  simp only [Option.toList_some, Option.toList_none, List.cons_append, List.nil_append]
  refine x_i2l Z dL_fill_9 ?_
  refine x_putfN (ci := 4) (j := 0) (C := RX3) (T := TX3) (N := 2) (fs' := [_, _]) Z tyX3 tyX3_ok nmX3 inX3g rfl (by decide) q297 rfl rfl rfl rfl rfl dL_fill_10 (by assumption) (by exact Nat.le_of_ble_eq_true rfl) rfl ?_
  refine x_goto Z 24 dL_fill_13 (by decide) ?_
  refine x_iconst Z dL_fill_24 ?_
  exact x_iret Z E (by first | exact ⟨0, rfl, dA.of hP9.1 hP9.2 hS9 hd9 hf9 hd⟩ | exact ⟨1, rfl, Or.inl ⟨rfl, hn1, rfl⟩⟩ | exact ⟨2, rfl, Or.inr (Or.inl ⟨rfl, ho1, hn2, rfl⟩)⟩) dL_fill_25 (Nat.le_of_ble_eq_true rfl) (Nat.le_of_ble_eq_true rfl)
abbrev rmc_L_first : Room := { frames := 8, cells := 2, slots := 12, locals := 147 }
set_option maxRecDepth 100000 in
theorem c_L_first {l : Launch} {s0 : State} {G : gK} {w : wd} (h0 : gS0 s0) (htr : l.stackTraces = false) {K : kA} {M : kM} {t : Int} {q : Int} {o : Bool} {oc : Nat} {yo : Int64} {sv : Value} (hS : kS G w K M) (ht : inr t) (hq : inr q) (ho : w oc = some (eO 4 [.long yo, sv])) (hd : ¬ kP K oc) : gM l s0 G yL_first [Cond.codeWith yL_first cL_first 6 (some .int) [(0, 13, 16, 19), (0, 13, 20, 21)]] rmc_L_first [rv K.1, iv t, iv q, iv (b2 o), rv oc] w (fun v w' => ∃ z : Int, v = some (iv z) ∧ dT G w K M oc (0 ≤ t ∧ t < 3) (0 ≤ q ∧ q < 14) (fun y => y = (zI (forI (fst9 (fun j => so (M.2.1 t j) q) o) 0 (M.1 t) (-1))).toInt64) sv z w') (noX) := by
  refine g_ofH h0 htr (by decide +kernel) (Nat.le_of_ble_eq_true rfl) ?_
  intro b Z0 E
  have Z : gAm b l s0 G cL_first RL 6 rmc_L_first := Z0
  refine x_el (L' := [(0, rv K.1), (1, iv t), (2, iv q), (3, iv (b2 o)), (4, rv oc)]) rfl ?_
  refine x_aload Z dL_first_0 rfl ?_
  refine x_aload_n Z dL_first_2 rfl rfl ?_
  refine x_iload_n Z dL_first_3 rfl rfl ?_
  refine x_iload_n Z dL_first_4 rfl rfl ?_
  refine x_iload_n Z dL_first_5 rfl rfl ?_
  refine x_callVx (ci := 3) (C := RX2) (T := TX2) (N := 4) Z okX2_first q913 q914 q915 rfl dL_first_6 (c_X2_first h0 htr hS (by assumption) (by assumption)) hS.1 ⟨Nat.le_of_ble_eq_true rfl, Nat.le_of_ble_eq_true rfl, Nat.le_of_ble_eq_true rfl, Nat.le_of_ble_eq_true rfl⟩ rfl rfl (Nat.le_of_ble_eq_true rfl) (fun X w9 hX => ?_) (fun v9 w9 hR => ?_)
  ·
    rcases hX with ⟨⟨rfl, hn1⟩ | ⟨rfl, ho1, hn2⟩, e9⟩ <;> rw [e9]
    refine x_ct2 Z E q307 q319 rfl (by decide) (fun q9 => ?_)
    refine x_astore (L' := [(5, _), (0, _), (1, _), (2, _), (3, _), (4, _)]) Z dL_first_16 (Nat.le_of_ble_eq_true rfl) rfl ?_
    refine x_iconst Z dL_first_18 ?_
    exact x_iret Z E (by first | exact ⟨0, rfl, dT.of hP9.1 hP9.2 hS9 rfl hf9 hd⟩ | exact ⟨1, rfl, Or.inl ⟨rfl, hn1, rfl⟩⟩ | exact ⟨2, rfl, Or.inr (Or.inl ⟨rfl, ho1, hn2, rfl⟩)⟩) dL_first_19 (Nat.le_of_ble_eq_true rfl) (Nat.le_of_ble_eq_true rfl)
    refine x_ct3 Z E q307 (by decide) q308 q228 rfl (by decide) (fun q9 => ?_)
    refine x_astore (L' := [(5, _), (0, _), (1, _), (2, _), (3, _), (4, _)]) Z dL_first_20 (Nat.le_of_ble_eq_true rfl) rfl ?_
    refine x_iconst Z dL_first_22 ?_
    exact x_iret Z E (by first | exact ⟨0, rfl, dT.of hP9.1 hP9.2 hS9 rfl hf9 hd⟩ | exact ⟨1, rfl, Or.inl ⟨rfl, hn1, rfl⟩⟩ | exact ⟨2, rfl, Or.inr (Or.inl ⟨rfl, ho1, hn2, rfl⟩)⟩) dL_first_23 (Nat.le_of_ble_eq_true rfl) (Nat.le_of_ble_eq_true rfl)
  obtain ⟨⟨rfl, e9⟩, hP9⟩ := hR
  refine x_ew e9 ?_
  have hS9 := hS
  have hf9 : fr (kP K) w w := fr.rf
  have ho9 := ho
  simp only [Option.toList_some, Option.toList_none, List.cons_append, List.nil_append]
  refine x_i2l Z dL_first_9 ?_
  refine x_putfN (ci := 4) (j := 0) (C := RX3) (T := TX3) (N := 2) (fs' := [_, _]) Z tyX3 tyX3_ok nmX3 inX3g rfl (by decide) q297 rfl rfl rfl rfl rfl dL_first_10 (by assumption) (by exact Nat.le_of_ble_eq_true rfl) rfl ?_
  refine x_goto Z 24 dL_first_13 (by decide) ?_
  refine x_iconst Z dL_first_24 ?_
  exact x_iret Z E (by first | exact ⟨0, rfl, dT.of hP9.1 hP9.2 hS9 rfl hf9 hd⟩ | exact ⟨1, rfl, Or.inl ⟨rfl, hn1, rfl⟩⟩ | exact ⟨2, rfl, Or.inr (Or.inl ⟨rfl, ho1, hn2, rfl⟩)⟩) dL_first_25 (Nat.le_of_ble_eq_true rfl) (Nat.le_of_ble_eq_true rfl)
abbrev rmc_L_house : Room := { frames := 7, cells := 1, slots := 6, locals := 150 }
set_option maxRecDepth 100000 in
theorem c_L_house {l : Launch} {s0 : State} {G : gK} {w : wd} (h0 : gS0 s0) (htr : l.stackTraces = false) {K : kA} {M : kM} {m : Int} {oc : Nat} {yo : Int64} {sv : Value} (hS : kS G w K M) (hm : inr m) (ho : w oc = some (eO 4 [.long yo, sv])) (hd : ¬ kP K oc) : gM l s0 G yL_house [Cond.codeWith yL_house cL_house 4 (some .int) [(0, 10, 13, 21)]] rmc_L_house [rv K.1, iv m, rv oc] w (fun v w' => ∃ z : Int, v = some (iv z) ∧ dT G w K M oc (0 ≤ m ∧ m ≤ 4) (True) (fun y => y = (zI (if m = 0 then 0 + M.1 0 + M.1 1 + M.1 2 else if m = 1 then M.2.2.1 else if m = 2 then M.2.2.2.1 else if m = 3 then M.2.2.2.2 else forI (cst (fun i => decide (0 < M.1 i ∧ sb (M.2.1 i 0) = 0 ∧ lon (M.1 i) (M.2.1 i) 0 = M.1 i))) 0 3 0)).toInt64) sv z w') (noX) := by
  refine g_ofH h0 htr (by decide +kernel) (Nat.le_of_ble_eq_true rfl) ?_
  intro b Z0 E
  have Z : gAm b l s0 G cL_house RL 4 rmc_L_house := Z0
  refine x_el (L' := [(0, rv K.1), (1, iv m), (2, rv oc)]) rfl ?_
  refine x_aload_n Z dL_house_0 rfl rfl ?_
  refine x_aload_n Z dL_house_1 rfl rfl ?_
  refine x_iload_n Z dL_house_2 rfl rfl ?_
  refine x_callVx (ci := 3) (C := RX2) (T := TX2) (N := 4) Z okX2_house q1016 q210 q211 rfl dL_house_3 (c_X2_house h0 htr hS (by assumption)) hS.1 ⟨Nat.le_of_ble_eq_true rfl, Nat.le_of_ble_eq_true rfl, Nat.le_of_ble_eq_true rfl, Nat.le_of_ble_eq_true rfl⟩ rfl rfl (Nat.le_of_ble_eq_true rfl) (fun X w9 hX => ?_) (fun v9 w9 hR => ?_)
  ·
    obtain ⟨rfl, e9, hn0⟩ := hX
    have hn1 : ¬ (0 ≤ m ∧ m ≤ 4) := by omega
    rw [e9]
    refine x_ct1 Z E q308 q228 rfl (by decide) (fun q9 => ?_)
    refine x_astore_n (L' := [(3, _), (0, _), (1, _), (2, _)]) Z dL_house_13 rfl (Nat.le_of_ble_eq_true rfl) rfl ?_
    refine x_iconst Z dL_house_14 ?_
    exact x_iret Z E (by first | exact ⟨0, rfl, dT.of hP9 trivial hS9 rfl hf9 hd⟩ | exact ⟨1, rfl, Or.inl ⟨rfl, hn1, rfl⟩⟩ | exact ⟨2, rfl, Or.inr (Or.inl ⟨rfl, ho1, hn2, rfl⟩)⟩) dL_house_15 (Nat.le_of_ble_eq_true rfl) (Nat.le_of_ble_eq_true rfl)
  obtain ⟨⟨rfl, e9⟩, hp1, hp2⟩ := hR
  refine x_ew e9 ?_
  have hP9 : 0 ≤ m ∧ m ≤ 4 := ⟨hp1, hp2⟩
  have hS9 := hS
  have hf9 : fr (kP K) w w := fr.rf
  have ho9 := ho
  simp only [Option.toList_some, Option.toList_none, List.cons_append, List.nil_append]
  refine x_i2l Z dL_house_6 ?_
  refine x_putfN (ci := 4) (j := 0) (C := RX3) (T := TX3) (N := 2) (fs' := [_, _]) Z tyX3 tyX3_ok nmX3 inX3g rfl (by decide) q297 rfl rfl rfl rfl rfl dL_house_7 (by assumption) (by exact Nat.le_of_ble_eq_true rfl) rfl ?_
  refine x_goto Z 16 dL_house_10 (by decide) ?_
  refine x_iconst Z dL_house_16 ?_
  exact x_iret Z E (by first | exact ⟨0, rfl, dT.of hP9 trivial hS9 rfl hf9 hd⟩ | exact ⟨1, rfl, Or.inl ⟨rfl, hn1, rfl⟩⟩ | exact ⟨2, rfl, Or.inr (Or.inl ⟨rfl, ho1, hn2, rfl⟩)⟩) dL_house_17 (Nat.le_of_ble_eq_true rfl) (Nat.le_of_ble_eq_true rfl)
abbrev rmc_L_insert : Room := { frames := 8, cells := 3, slots := 18, locals := 145 }
set_option maxRecDepth 100000 in
theorem c_L_insert {l : Launch} {s0 : State} {G : gK} {w : wd} (h0 : gS0 s0) (htr : l.stackTraces = false) {K : kA} {M : kM} {t : Int} {p : Int} {s : Int} {oc : Nat} {yo : Int64} {sv : Value} (hS : kS G w K M) (ht : inr t) (hp : inr p) (hs : inr s) (ho : w oc = some (eO 4 [.long yo, sv])) (hd : ¬ kP K oc) : gM l s0 G yL_insert [Cond.codeWith yL_insert cL_insert 6 (some .int) [(0, 13, 16, 19), (0, 13, 20, 21)]] rmc_L_insert [rv K.1, iv t, iv p, iv s, rv oc] w (fun v w' => ∃ z : Int, v = some (iv z) ∧ dA G w K M oc ((0 ≤ t ∧ t < 3) ∧ 0 ≤ p ∧ p ≤ M.1 t) (0 ≤ s ∧ s < 256) (acIns M.1 M.2.1 t p s) sv z w') (noX) := by
  refine g_ofH h0 htr (by decide +kernel) (Nat.le_of_ble_eq_true rfl) ?_
  intro b Z0 E
  have Z : gAm b l s0 G cL_insert RL 6 rmc_L_insert := Z0
  refine x_el (L' := [(0, rv K.1), (1, iv t), (2, iv p), (3, iv s), (4, rv oc)]) rfl ?_
  refine x_aload Z dL_insert_0 rfl ?_
  refine x_aload_n Z dL_insert_2 rfl rfl ?_
  refine x_iload_n Z dL_insert_3 rfl rfl ?_
  refine x_iload_n Z dL_insert_4 rfl rfl ?_
  refine x_iload_n Z dL_insert_5 rfl rfl ?_
  refine x_callVx (ci := 3) (C := RX2) (T := TX2) (N := 4) Z okX2_insert q370 q371 q372 rfl dL_insert_6 (c_X2_insert h0 htr hS (by assumption) (by assumption) (by assumption)) hS.1 ⟨Nat.le_of_ble_eq_true rfl, Nat.le_of_ble_eq_true rfl, Nat.le_of_ble_eq_true rfl, Nat.le_of_ble_eq_true rfl⟩ rfl rfl (Nat.le_of_ble_eq_true rfl) (fun X w9 hX => ?_) (fun v9 w9 hR => ?_)
  ·
    rcases hX with ⟨⟨rfl, hn1⟩ | ⟨rfl, ho1, hn2⟩, e9⟩ <;> rw [e9]
    refine x_ct2 Z E q307 q319 rfl (by decide) (fun q9 => ?_)
    refine x_astore (L' := [(5, _), (0, _), (1, _), (2, _), (3, _), (4, _)]) Z dL_insert_16 (Nat.le_of_ble_eq_true rfl) rfl ?_
    refine x_iconst Z dL_insert_18 ?_
    exact x_iret Z E (by first | exact ⟨0, rfl, dA.of hP9.1 hP9.2 hS9 hd9 hf9 hd⟩ | exact ⟨1, rfl, Or.inl ⟨rfl, hn1, rfl⟩⟩ | exact ⟨2, rfl, Or.inr (Or.inl ⟨rfl, ho1, hn2, rfl⟩)⟩) dL_insert_19 (Nat.le_of_ble_eq_true rfl) (Nat.le_of_ble_eq_true rfl)
    refine x_ct3 Z E q307 (by decide) q308 q228 rfl (by decide) (fun q9 => ?_)
    refine x_astore (L' := [(5, _), (0, _), (1, _), (2, _), (3, _), (4, _)]) Z dL_insert_20 (Nat.le_of_ble_eq_true rfl) rfl ?_
    refine x_iconst Z dL_insert_22 ?_
    exact x_iret Z E (by first | exact ⟨0, rfl, dA.of hP9.1 hP9.2 hS9 hd9 hf9 hd⟩ | exact ⟨1, rfl, Or.inl ⟨rfl, hn1, rfl⟩⟩ | exact ⟨2, rfl, Or.inr (Or.inl ⟨rfl, ho1, hn2, rfl⟩)⟩) dL_insert_23 (Nat.le_of_ble_eq_true rfl) (Nat.le_of_ble_eq_true rfl)
  obtain ⟨⟨z, rfl, M9, hS9, hd9, hf9⟩, hP9⟩ := hR
  have ho9 := hf9.at hd ho
  simp only [Option.toList_some, Option.toList_none, List.cons_append, List.nil_append]
  refine x_i2l Z dL_insert_9 ?_
  refine x_putfN (ci := 4) (j := 0) (C := RX3) (T := TX3) (N := 2) (fs' := [_, _]) Z tyX3 tyX3_ok nmX3 inX3g rfl (by decide) q297 rfl rfl rfl rfl rfl dL_insert_10 (by assumption) (by exact Nat.le_of_ble_eq_true rfl) rfl ?_
  refine x_goto Z 24 dL_insert_13 (by decide) ?_
  refine x_iconst Z dL_insert_24 ?_
  exact x_iret Z E (by first | exact ⟨0, rfl, dA.of hP9.1 hP9.2 hS9 hd9 hf9 hd⟩ | exact ⟨1, rfl, Or.inl ⟨rfl, hn1, rfl⟩⟩ | exact ⟨2, rfl, Or.inr (Or.inl ⟨rfl, ho1, hn2, rfl⟩)⟩) dL_insert_25 (Nat.le_of_ble_eq_true rfl) (Nat.le_of_ble_eq_true rfl)
abbrev rmc_L_isAll : Room := { frames := 8, cells := 2, slots := 12, locals := 144 }
set_option maxRecDepth 100000 in
theorem c_L_isAll {l : Launch} {s0 : State} {G : gK} {w : wd} (h0 : gS0 s0) (htr : l.stackTraces = false) {K : kA} {M : kM} {t : Int} {q : Int} {oc : Nat} {yo : Int64} {sv : Value} (hS : kS G w K M) (ht : inr t) (hq : inr q) (ho : w oc = some (eO 4 [.long yo, sv])) (hd : ¬ kP K oc) : gM l s0 G yL_isAll [Cond.codeWith yL_isAll cL_isAll 5 (some .int) [(0, 18, 21, 19), (0, 18, 25, 21)]] rmc_L_isAll [rv K.1, iv t, iv q, rv oc] w (fun v w' => ∃ z : Int, v = some (iv z) ∧ dT G w K M oc (0 ≤ t ∧ t < 3) (0 ≤ q ∧ q < 14) (fun y => y = cond (decide (findI (fun j => !so (M.2.1 t j) q) 0 (M.1 t) = M.1 t)) 1 0) sv z w') (noX) := by
  refine g_ofH h0 htr (by decide +kernel) (Nat.le_of_ble_eq_true rfl) ?_
  intro b Z0 E
  have Z : gAm b l s0 G cL_isAll RL 5 rmc_L_isAll := Z0
  refine x_el (L' := [(0, rv K.1), (1, iv t), (2, iv q), (3, rv oc)]) rfl ?_
  refine x_aload_n Z dL_isAll_0 rfl rfl ?_
  refine x_aload_n Z dL_isAll_1 rfl rfl ?_
  refine x_iload_n Z dL_isAll_2 rfl rfl ?_
  refine x_iload_n Z dL_isAll_3 rfl rfl ?_
  refine x_callVx (ci := 3) (C := RX2) (T := TX2) (N := 4) Z okX2_isAll q906 q907 q908 rfl dL_isAll_4 (c_X2_isAll h0 htr hS (by assumption) (by assumption)) hS.1 ⟨Nat.le_of_ble_eq_true rfl, Nat.le_of_ble_eq_true rfl, Nat.le_of_ble_eq_true rfl, Nat.le_of_ble_eq_true rfl⟩ rfl rfl (Nat.le_of_ble_eq_true rfl) (fun X w9 hX => ?_) (fun v9 w9 hR => ?_)
  ·
    rcases hX with ⟨⟨rfl, hn1⟩ | ⟨rfl, ho1, hn2⟩, e9⟩ <;> rw [e9]
    refine x_ct2 Z E q307 q319 rfl (by decide) (fun q9 => ?_)
    refine x_astore (L' := [(4, _), (0, _), (1, _), (2, _), (3, _)]) Z dL_isAll_21 (Nat.le_of_ble_eq_true rfl) rfl ?_
    refine x_iconst Z dL_isAll_23 ?_
    exact x_iret Z E (by first | exact ⟨0, rfl, dT.of hP9.1 hP9.2 hS9 (by rw [c7]; rfl) hf9 hd⟩ | exact ⟨1, rfl, Or.inl ⟨rfl, hn1, rfl⟩⟩ | exact ⟨2, rfl, Or.inr (Or.inl ⟨rfl, ho1, hn2, rfl⟩)⟩) dL_isAll_24 (Nat.le_of_ble_eq_true rfl) (Nat.le_of_ble_eq_true rfl)
    refine x_ct3 Z E q307 (by decide) q308 q228 rfl (by decide) (fun q9 => ?_)
    refine x_astore (L' := [(4, _), (0, _), (1, _), (2, _), (3, _)]) Z dL_isAll_25 (Nat.le_of_ble_eq_true rfl) rfl ?_
    refine x_iconst Z dL_isAll_27 ?_
    exact x_iret Z E (by first | exact ⟨0, rfl, dT.of hP9.1 hP9.2 hS9 (by rw [c7]; rfl) hf9 hd⟩ | exact ⟨1, rfl, Or.inl ⟨rfl, hn1, rfl⟩⟩ | exact ⟨2, rfl, Or.inr (Or.inl ⟨rfl, ho1, hn2, rfl⟩)⟩) dL_isAll_28 (Nat.le_of_ble_eq_true rfl) (Nat.le_of_ble_eq_true rfl)
  obtain ⟨⟨rfl, e9⟩, hP9⟩ := hR
  refine x_ew e9 ?_
  have hS9 := hS
  have hf9 : fr (kP K) w w := fr.rf
  have ho9 := ho
  simp only [Option.toList_some, Option.toList_none, List.cons_append, List.nil_append]
  refine x_ifb_eq Z 14 dL_isAll_7 (by decide) (fun c7 => ?_) (fun c7 => ?_)
  ·
    refine x_lconst Z dL_isAll_14 ?_
    refine x_putfN (ci := 4) (j := 0) (C := RX3) (T := TX3) (N := 2) (fs' := [_, _]) Z tyX3 tyX3_ok nmX3 inX3g rfl (by decide) q297 rfl rfl rfl rfl rfl dL_isAll_15 (by assumption) (by exact Nat.le_of_ble_eq_true rfl) rfl ?_
    refine x_goto Z 29 dL_isAll_18 (by decide) ?_
    refine x_iconst Z dL_isAll_29 ?_
    exact x_iret Z E (by first | exact ⟨0, rfl, dT.of hP9.1 hP9.2 hS9 (by rw [c7]; rfl) hf9 hd⟩ | exact ⟨1, rfl, Or.inl ⟨rfl, hn1, rfl⟩⟩ | exact ⟨2, rfl, Or.inr (Or.inl ⟨rfl, ho1, hn2, rfl⟩)⟩) dL_isAll_30 (Nat.le_of_ble_eq_true rfl) (Nat.le_of_ble_eq_true rfl)
  ·
    refine x_lconst Z dL_isAll_10 ?_
    refine x_goto Z 15 dL_isAll_11 (by decide) ?_
    refine x_putfN (ci := 4) (j := 0) (C := RX3) (T := TX3) (N := 2) (fs' := [_, _]) Z tyX3 tyX3_ok nmX3 inX3g rfl (by decide) q297 rfl rfl rfl rfl rfl dL_isAll_15 (by assumption) (by exact Nat.le_of_ble_eq_true rfl) rfl ?_
    refine x_goto Z 29 dL_isAll_18 (by decide) ?_
    refine x_iconst Z dL_isAll_29 ?_
    exact x_iret Z E (by first | exact ⟨0, rfl, dT.of hP9.1 hP9.2 hS9 (by rw [c7]; rfl) hf9 hd⟩ | exact ⟨1, rfl, Or.inl ⟨rfl, hn1, rfl⟩⟩ | exact ⟨2, rfl, Or.inr (Or.inl ⟨rfl, ho1, hn2, rfl⟩)⟩) dL_isAll_30 (Nat.le_of_ble_eq_true rfl) (Nat.le_of_ble_eq_true rfl)
abbrev rmc_L_isName : Room := { frames := 8, cells := 1, slots := 6, locals := 142 }
set_option maxRecDepth 100000 in
theorem c_L_isName {l : Launch} {s0 : State} {G : gK} {w : wd} (h0 : gS0 s0) (htr : l.stackTraces = false) {K : kA} {M : kM} {t : Int} {oc : Nat} {yo : Int64} {sv : Value} (hS : kS G w K M) (ht : inr t) (ho : w oc = some (eO 4 [.long yo, sv])) (hd : ¬ kP K oc) : gM l s0 G yL_isName [Cond.codeWith yL_isName cL_isName 4 (some .int) [(0, 17, 20, 19)]] rmc_L_isName [rv K.1, iv t, rv oc] w (fun v w' => ∃ z : Int, v = some (iv z) ∧ dT G w K M oc (0 ≤ t ∧ t < 3) (True) (fun y => y = cond (decide (0 < M.1 t ∧ sb (M.2.1 t 0) = 0 ∧ lon (M.1 t) (M.2.1 t) 0 = M.1 t)) 1 0) sv z w') (noX) := by
  refine g_ofH h0 htr (by decide +kernel) (Nat.le_of_ble_eq_true rfl) ?_
  intro b Z0 E
  have Z : gAm b l s0 G cL_isName RL 4 rmc_L_isName := Z0
  refine x_el (L' := [(0, rv K.1), (1, iv t), (2, rv oc)]) rfl ?_
  refine x_aload_n Z dL_isName_0 rfl rfl ?_
  refine x_aload_n Z dL_isName_1 rfl rfl ?_
  refine x_iload_n Z dL_isName_2 rfl rfl ?_
  refine x_callVx (ci := 3) (C := RX2) (T := TX2) (N := 4) Z okX2_isName q927 q928 q929 rfl dL_isName_3 (c_X2_isName h0 htr hS (by assumption)) hS.1 ⟨Nat.le_of_ble_eq_true rfl, Nat.le_of_ble_eq_true rfl, Nat.le_of_ble_eq_true rfl, Nat.le_of_ble_eq_true rfl⟩ rfl rfl (Nat.le_of_ble_eq_true rfl) (fun X w9 hX => ?_) (fun v9 w9 hR => ?_)
  ·
    obtain ⟨rfl, e9, hn1⟩ := hX
    rw [e9]
    refine x_ct1 Z E q307 q319 rfl (by decide) (fun q9 => ?_)
    refine x_astore_n (L' := [(3, _), (0, _), (1, _), (2, _)]) Z dL_isName_20 rfl (Nat.le_of_ble_eq_true rfl) rfl ?_
    refine x_iconst Z dL_isName_21 ?_
    exact x_iret Z E (by first | exact ⟨0, rfl, dT.of hP9 trivial hS9 (by rw [c6]; rfl) hf9 hd⟩ | exact ⟨1, rfl, Or.inl ⟨rfl, hn1, rfl⟩⟩ | exact ⟨2, rfl, Or.inr (Or.inl ⟨rfl, ho1, hn2, rfl⟩)⟩) dL_isName_22 (Nat.le_of_ble_eq_true rfl) (Nat.le_of_ble_eq_true rfl)
  obtain ⟨⟨rfl, e9⟩, hP9⟩ := hR
  refine x_ew e9 ?_
  have hS9 := hS
  have hf9 : fr (kP K) w w := fr.rf
  have ho9 := ho
  simp only [Option.toList_some, Option.toList_none, List.cons_append, List.nil_append]
  refine x_ifb_eq Z 13 dL_isName_6 (by decide) (fun c6 => ?_) (fun c6 => ?_)
  ·
    refine x_lconst Z dL_isName_13 ?_
    refine x_putfN (ci := 4) (j := 0) (C := RX3) (T := TX3) (N := 2) (fs' := [_, _]) Z tyX3 tyX3_ok nmX3 inX3g rfl (by decide) q297 rfl rfl rfl rfl rfl dL_isName_14 (by assumption) (by exact Nat.le_of_ble_eq_true rfl) rfl ?_
    refine x_goto Z 23 dL_isName_17 (by decide) ?_
    refine x_iconst Z dL_isName_23 ?_
    exact x_iret Z E (by first | exact ⟨0, rfl, dT.of hP9 trivial hS9 (by rw [c6]; rfl) hf9 hd⟩ | exact ⟨1, rfl, Or.inl ⟨rfl, hn1, rfl⟩⟩ | exact ⟨2, rfl, Or.inr (Or.inl ⟨rfl, ho1, hn2, rfl⟩)⟩) dL_isName_24 (Nat.le_of_ble_eq_true rfl) (Nat.le_of_ble_eq_true rfl)
  ·
    refine x_lconst Z dL_isName_9 ?_
    refine x_goto Z 14 dL_isName_10 (by decide) ?_
    refine x_putfN (ci := 4) (j := 0) (C := RX3) (T := TX3) (N := 2) (fs' := [_, _]) Z tyX3 tyX3_ok nmX3 inX3g rfl (by decide) q297 rfl rfl rfl rfl rfl dL_isName_14 (by assumption) (by exact Nat.le_of_ble_eq_true rfl) rfl ?_
    refine x_goto Z 23 dL_isName_17 (by decide) ?_
    refine x_iconst Z dL_isName_23 ?_
    exact x_iret Z E (by first | exact ⟨0, rfl, dT.of hP9 trivial hS9 (by rw [c6]; rfl) hf9 hd⟩ | exact ⟨1, rfl, Or.inl ⟨rfl, hn1, rfl⟩⟩ | exact ⟨2, rfl, Or.inr (Or.inl ⟨rfl, ho1, hn2, rfl⟩)⟩) dL_isName_24 (Nat.le_of_ble_eq_true rfl) (Nat.le_of_ble_eq_true rfl)
abbrev rmc_L_join : Room := { frames := 8, cells := 2, slots := 12, locals := 145 }
set_option maxRecDepth 100000 in
theorem c_L_join {l : Launch} {s0 : State} {G : gK} {w : wd} (h0 : gS0 s0) (htr : l.stackTraces = false) {K : kA} {M : kM} {t : Int} {u : Int} {oc : Nat} {yo : Int64} {sv : Value} (hS : kS G w K M) (ht : inr t) (hu : inr u) (ho : w oc = some (eO 4 [.long yo, sv])) (hd : ¬ kP K oc) : gM l s0 G yL_join [Cond.codeWith yL_join cL_join 5 (some .int) [(0, 11, 14, 19)]] rmc_L_join [rv K.1, iv t, iv u, rv oc] w (fun v w' => ∃ z : Int, v = some (iv z) ∧ dA G w K M oc ((0 ≤ t ∧ t < 3) ∧ 0 ≤ u ∧ u < 3) (True) (acJoin M.1 M.2.1 t u) sv z w') (noX) := by
  refine g_ofH h0 htr (by decide +kernel) (Nat.le_of_ble_eq_true rfl) ?_
  intro b Z0 E
  have Z : gAm b l s0 G cL_join RL 5 rmc_L_join := Z0
  refine x_el (L' := [(0, rv K.1), (1, iv t), (2, iv u), (3, rv oc)]) rfl ?_
  refine x_aload_n Z dL_join_0 rfl rfl ?_
  refine x_aload_n Z dL_join_1 rfl rfl ?_
  refine x_iload_n Z dL_join_2 rfl rfl ?_
  refine x_iload_n Z dL_join_3 rfl rfl ?_
  refine x_callVx (ci := 3) (C := RX2) (T := TX2) (N := 4) Z okX2_join q410 q411 q412 rfl dL_join_4 (c_X2_join h0 htr hS (by assumption) (by assumption)) hS.1 ⟨Nat.le_of_ble_eq_true rfl, Nat.le_of_ble_eq_true rfl, Nat.le_of_ble_eq_true rfl, Nat.le_of_ble_eq_true rfl⟩ rfl rfl (Nat.le_of_ble_eq_true rfl) (fun X w9 hX => ?_) (fun v9 w9 hR => ?_)
  ·
    obtain ⟨rfl, e9, hn1⟩ := hX
    rw [e9]
    refine x_ct1 Z E q307 q319 rfl (by decide) (fun q9 => ?_)
    refine x_astore (L' := [(4, _), (0, _), (1, _), (2, _), (3, _)]) Z dL_join_14 (Nat.le_of_ble_eq_true rfl) rfl ?_
    refine x_iconst Z dL_join_16 ?_
    exact x_iret Z E (by first | exact ⟨0, rfl, dA.of hP9 trivial hS9 hd9 hf9 hd⟩ | exact ⟨1, rfl, Or.inl ⟨rfl, hn1, rfl⟩⟩ | exact ⟨2, rfl, Or.inr (Or.inl ⟨rfl, ho1, hn2, rfl⟩)⟩) dL_join_17 (Nat.le_of_ble_eq_true rfl) (Nat.le_of_ble_eq_true rfl)
  obtain ⟨⟨z, rfl, M9, hS9, hd9, hf9⟩, hP9⟩ := hR
  have ho9 := hf9.at hd ho
  simp only [Option.toList_some, Option.toList_none, List.cons_append, List.nil_append]
  refine x_i2l Z dL_join_7 ?_
  refine x_putfN (ci := 4) (j := 0) (C := RX3) (T := TX3) (N := 2) (fs' := [_, _]) Z tyX3 tyX3_ok nmX3 inX3g rfl (by decide) q297 rfl rfl rfl rfl rfl dL_join_8 (by assumption) (by exact Nat.le_of_ble_eq_true rfl) rfl ?_
  refine x_goto Z 18 dL_join_11 (by decide) ?_
  refine x_iconst Z dL_join_18 ?_
  exact x_iret Z E (by first | exact ⟨0, rfl, dA.of hP9 trivial hS9 hd9 hf9 hd⟩ | exact ⟨1, rfl, Or.inl ⟨rfl, hn1, rfl⟩⟩ | exact ⟨2, rfl, Or.inr (Or.inl ⟨rfl, ho1, hn2, rfl⟩)⟩) dL_join_19 (Nat.le_of_ble_eq_true rfl) (Nat.le_of_ble_eq_true rfl)
abbrev rmc_L_keep : Room := { frames := 8, cells := 2, slots := 12, locals := 145 }
set_option maxRecDepth 100000 in
theorem c_L_keep {l : Launch} {s0 : State} {G : gK} {w : wd} (h0 : gS0 s0) (htr : l.stackTraces = false) {K : kA} {M : kM} {t : Int} {q : Int} {o : Bool} {oc : Nat} {yo : Int64} {sv : Value} (hS : kS G w K M) (ht : inr t) (hq : inr q) (ho : w oc = some (eO 4 [.long yo, sv])) (hd : ¬ kP K oc) : gM l s0 G yL_keep [Cond.codeWith yL_keep cL_keep 6 (some .int) [(0, 13, 16, 19), (0, 13, 20, 21)]] rmc_L_keep [rv K.1, iv t, iv q, iv (b2 o), rv oc] w (fun v w' => ∃ z : Int, v = some (iv z) ∧ dA G w K M oc (0 ≤ t ∧ t < 3) (0 ≤ q ∧ q < 14) (acSift M.1 M.2.1 t (fun j => so (M.2.1 t j) q == o)) sv z w') (noX) := by
  refine g_ofH h0 htr (by decide +kernel) (Nat.le_of_ble_eq_true rfl) ?_
  intro b Z0 E
  have Z : gAm b l s0 G cL_keep RL 6 rmc_L_keep := Z0
  refine x_el (L' := [(0, rv K.1), (1, iv t), (2, iv q), (3, iv (b2 o)), (4, rv oc)]) rfl ?_
  refine x_aload Z dL_keep_0 rfl ?_
  refine x_aload_n Z dL_keep_2 rfl rfl ?_
  refine x_iload_n Z dL_keep_3 rfl rfl ?_
  refine x_iload_n Z dL_keep_4 rfl rfl ?_
  refine x_iload_n Z dL_keep_5 rfl rfl ?_
  refine x_callVx (ci := 3) (C := RX2) (T := TX2) (N := 4) Z okX2_keep q446 q447 q448 rfl dL_keep_6 (c_X2_keep h0 htr hS (by assumption) (by assumption)) hS.1 ⟨Nat.le_of_ble_eq_true rfl, Nat.le_of_ble_eq_true rfl, Nat.le_of_ble_eq_true rfl, Nat.le_of_ble_eq_true rfl⟩ rfl rfl (Nat.le_of_ble_eq_true rfl) (fun X w9 hX => ?_) (fun v9 w9 hR => ?_)
  ·
    rcases hX with ⟨⟨rfl, hn1⟩ | ⟨rfl, ho1, hn2⟩, e9⟩ <;> rw [e9]
    refine x_ct2 Z E q307 q319 rfl (by decide) (fun q9 => ?_)
    refine x_astore (L' := [(5, _), (0, _), (1, _), (2, _), (3, _), (4, _)]) Z dL_keep_16 (Nat.le_of_ble_eq_true rfl) rfl ?_
    refine x_iconst Z dL_keep_18 ?_
    exact x_iret Z E (by first | exact ⟨0, rfl, dA.of hP9.1 hP9.2 hS9 hd9 hf9 hd⟩ | exact ⟨1, rfl, Or.inl ⟨rfl, hn1, rfl⟩⟩ | exact ⟨2, rfl, Or.inr (Or.inl ⟨rfl, ho1, hn2, rfl⟩)⟩) dL_keep_19 (Nat.le_of_ble_eq_true rfl) (Nat.le_of_ble_eq_true rfl)
    refine x_ct3 Z E q307 (by decide) q308 q228 rfl (by decide) (fun q9 => ?_)
    refine x_astore (L' := [(5, _), (0, _), (1, _), (2, _), (3, _), (4, _)]) Z dL_keep_20 (Nat.le_of_ble_eq_true rfl) rfl ?_
    refine x_iconst Z dL_keep_22 ?_
    exact x_iret Z E (by first | exact ⟨0, rfl, dA.of hP9.1 hP9.2 hS9 hd9 hf9 hd⟩ | exact ⟨1, rfl, Or.inl ⟨rfl, hn1, rfl⟩⟩ | exact ⟨2, rfl, Or.inr (Or.inl ⟨rfl, ho1, hn2, rfl⟩)⟩) dL_keep_23 (Nat.le_of_ble_eq_true rfl) (Nat.le_of_ble_eq_true rfl)
  obtain ⟨⟨z, rfl, M9, hS9, hd9, hf9⟩, hP9⟩ := hR
  have ho9 := hf9.at hd ho
  simp only [Option.toList_some, Option.toList_none, List.cons_append, List.nil_append]
  refine x_i2l Z dL_keep_9 ?_
  refine x_putfN (ci := 4) (j := 0) (C := RX3) (T := TX3) (N := 2) (fs' := [_, _]) Z tyX3 tyX3_ok nmX3 inX3g rfl (by decide) q297 rfl rfl rfl rfl rfl dL_keep_10 (by assumption) (by exact Nat.le_of_ble_eq_true rfl) rfl ?_
  refine x_goto Z 24 dL_keep_13 (by decide) ?_
  refine x_iconst Z dL_keep_24 ?_
  exact x_iret Z E (by first | exact ⟨0, rfl, dA.of hP9.1 hP9.2 hS9 hd9 hf9 hd⟩ | exact ⟨1, rfl, Or.inl ⟨rfl, hn1, rfl⟩⟩ | exact ⟨2, rfl, Or.inr (Or.inl ⟨rfl, ho1, hn2, rfl⟩)⟩) dL_keep_25 (Nat.le_of_ble_eq_true rfl) (Nat.le_of_ble_eq_true rfl)
abbrev rmc_L_keepKind : Room := { frames := 8, cells := 2, slots := 12, locals := 145 }
set_option maxRecDepth 100000 in
theorem c_L_keepKind {l : Launch} {s0 : State} {G : gK} {w : wd} (h0 : gS0 s0) (htr : l.stackTraces = false) {K : kA} {M : kM} {t : Int} {q : Int} {o : Bool} {oc : Nat} {yo : Int64} {sv : Value} (hS : kS G w K M) (ht : inr t) (hq : inr q) (ho : w oc = some (eO 4 [.long yo, sv])) (hd : ¬ kP K oc) : gM l s0 G yL_keepKind [Cond.codeWith yL_keepKind cL_keepKind 6 (some .int) [(0, 13, 16, 19), (0, 13, 20, 21)]] rmc_L_keepKind [rv K.1, iv t, iv q, iv (b2 o), rv oc] w (fun v w' => ∃ z : Int, v = some (iv z) ∧ dA G w K M oc (0 ≤ t ∧ t < 3) (0 ≤ q ∧ q < 31) (acSift M.1 M.2.1 t (fun j => decide (kin (M.2.1 t j) = q) == o)) sv z w') (noX) := by
  refine g_ofH h0 htr (by decide +kernel) (Nat.le_of_ble_eq_true rfl) ?_
  intro b Z0 E
  have Z : gAm b l s0 G cL_keepKind RL 6 rmc_L_keepKind := Z0
  refine x_el (L' := [(0, rv K.1), (1, iv t), (2, iv q), (3, iv (b2 o)), (4, rv oc)]) rfl ?_
  refine x_aload Z dL_keepKind_0 rfl ?_
  refine x_aload_n Z dL_keepKind_2 rfl rfl ?_
  refine x_iload_n Z dL_keepKind_3 rfl rfl ?_
  refine x_iload_n Z dL_keepKind_4 rfl rfl ?_
  refine x_iload_n Z dL_keepKind_5 rfl rfl ?_
  refine x_callVx (ci := 3) (C := RX2) (T := TX2) (N := 4) Z okX2_keepKind q460 q461 q462 rfl dL_keepKind_6 (c_X2_keepKind h0 htr hS (by assumption) (by assumption)) hS.1 ⟨Nat.le_of_ble_eq_true rfl, Nat.le_of_ble_eq_true rfl, Nat.le_of_ble_eq_true rfl, Nat.le_of_ble_eq_true rfl⟩ rfl rfl (Nat.le_of_ble_eq_true rfl) (fun X w9 hX => ?_) (fun v9 w9 hR => ?_)
  ·
    rcases hX with ⟨⟨rfl, hn1⟩ | ⟨rfl, ho1, hn2⟩, e9⟩ <;> rw [e9]
    refine x_ct2 Z E q307 q319 rfl (by decide) (fun q9 => ?_)
    refine x_astore (L' := [(5, _), (0, _), (1, _), (2, _), (3, _), (4, _)]) Z dL_keepKind_16 (Nat.le_of_ble_eq_true rfl) rfl ?_
    refine x_iconst Z dL_keepKind_18 ?_
    exact x_iret Z E (by first | exact ⟨0, rfl, dA.of hP9.1 hP9.2 hS9 hd9 hf9 hd⟩ | exact ⟨1, rfl, Or.inl ⟨rfl, hn1, rfl⟩⟩ | exact ⟨2, rfl, Or.inr (Or.inl ⟨rfl, ho1, hn2, rfl⟩)⟩) dL_keepKind_19 (Nat.le_of_ble_eq_true rfl) (Nat.le_of_ble_eq_true rfl)
    refine x_ct3 Z E q307 (by decide) q308 q228 rfl (by decide) (fun q9 => ?_)
    refine x_astore (L' := [(5, _), (0, _), (1, _), (2, _), (3, _), (4, _)]) Z dL_keepKind_20 (Nat.le_of_ble_eq_true rfl) rfl ?_
    refine x_iconst Z dL_keepKind_22 ?_
    exact x_iret Z E (by first | exact ⟨0, rfl, dA.of hP9.1 hP9.2 hS9 hd9 hf9 hd⟩ | exact ⟨1, rfl, Or.inl ⟨rfl, hn1, rfl⟩⟩ | exact ⟨2, rfl, Or.inr (Or.inl ⟨rfl, ho1, hn2, rfl⟩)⟩) dL_keepKind_23 (Nat.le_of_ble_eq_true rfl) (Nat.le_of_ble_eq_true rfl)
  obtain ⟨⟨z, rfl, M9, hS9, hd9, hf9⟩, hP9⟩ := hR
  have ho9 := hf9.at hd ho
  simp only [Option.toList_some, Option.toList_none, List.cons_append, List.nil_append]
  refine x_i2l Z dL_keepKind_9 ?_
  refine x_putfN (ci := 4) (j := 0) (C := RX3) (T := TX3) (N := 2) (fs' := [_, _]) Z tyX3 tyX3_ok nmX3 inX3g rfl (by decide) q297 rfl rfl rfl rfl rfl dL_keepKind_10 (by assumption) (by exact Nat.le_of_ble_eq_true rfl) rfl ?_
  refine x_goto Z 24 dL_keepKind_13 (by decide) ?_
  refine x_iconst Z dL_keepKind_24 ?_
  exact x_iret Z E (by first | exact ⟨0, rfl, dA.of hP9.1 hP9.2 hS9 hd9 hf9 hd⟩ | exact ⟨1, rfl, Or.inl ⟨rfl, hn1, rfl⟩⟩ | exact ⟨2, rfl, Or.inr (Or.inl ⟨rfl, ho1, hn2, rfl⟩)⟩) dL_keepKind_25 (Nat.le_of_ble_eq_true rfl) (Nat.le_of_ble_eq_true rfl)
abbrev rmc_L_kind : Room := { frames := 8, cells := 1, slots := 6, locals := 141 }
set_option maxRecDepth 100000 in
theorem c_L_kind {l : Launch} {s0 : State} {G : gK} {w : wd} (h0 : gS0 s0) (htr : l.stackTraces = false) {K : kA} {M : kM} {s : Int} {oc : Nat} {yo : Int64} {sv : Value} (hS : kS G w K M) (hs : inr s) (ho : w oc = some (eO 4 [.long yo, sv])) (hd : ¬ kP K oc) : gM l s0 G yL_kind [Cond.codeWith yL_kind cL_kind 4 (some .int) [(0, 10, 13, 21)]] rmc_L_kind [rv K.1, iv s, rv oc] w (fun v w' => ∃ z : Int, v = some (iv z) ∧ dQ w oc z (0 ≤ s ∧ s < 256) ((zI (kin s)).toInt64) sv w') (noX) := by
  refine g_ofH h0 htr (by decide +kernel) (Nat.le_of_ble_eq_true rfl) ?_
  intro b Z0 E
  have Z : gAm b l s0 G cL_kind RL 4 rmc_L_kind := Z0
  refine x_el (L' := [(0, rv K.1), (1, iv s), (2, rv oc)]) rfl ?_
  refine x_aload_n Z dL_kind_0 rfl rfl ?_
  refine x_aload_n Z dL_kind_1 rfl rfl ?_
  refine x_iload_n Z dL_kind_2 rfl rfl ?_
  refine x_callVx (ci := 3) (C := RX2) (T := TX2) (N := 4) Z okX2_kind q497 q498 q499 rfl dL_kind_3 (c_X2_kind h0 htr hS (by assumption)) hS.1 ⟨Nat.le_of_ble_eq_true rfl, Nat.le_of_ble_eq_true rfl, Nat.le_of_ble_eq_true rfl, Nat.le_of_ble_eq_true rfl⟩ rfl rfl (Nat.le_of_ble_eq_true rfl) (fun X w9 hX => ?_) (fun v9 w9 hR => ?_)
  ·
    obtain ⟨rfl, e9, hnP⟩ := hX
    rw [e9]
    refine x_ct1 Z E q308 q228 rfl (by decide) (fun q9 => ?_)
    refine x_astore_n (L' := [(3, _), (0, _), (1, _), (2, _)]) Z dL_kind_13 rfl (Nat.le_of_ble_eq_true rfl) rfl ?_
    refine x_iconst Z dL_kind_14 ?_
    exact x_iret Z E (by first | exact ⟨0, rfl, Or.inr ⟨rfl, hP9, rfl⟩⟩ | exact ⟨1, rfl, Or.inl ⟨rfl, hnP, rfl⟩⟩) dL_kind_15 (Nat.le_of_ble_eq_true rfl) (Nat.le_of_ble_eq_true rfl)
  obtain ⟨⟨rfl, e9⟩, hP9⟩ := hR
  refine x_ew e9 ?_
  have hS9 := hS
  have hf9 : fr (kP K) w w := fr.rf
  have ho9 := ho
  simp only [Option.toList_some, Option.toList_none, List.cons_append, List.nil_append]
  refine x_i2l Z dL_kind_6 ?_
  refine x_putfN (ci := 4) (j := 0) (C := RX3) (T := TX3) (N := 2) (fs' := [_, _]) Z tyX3 tyX3_ok nmX3 inX3g rfl (by decide) q297 rfl rfl rfl rfl rfl dL_kind_7 (by assumption) (by exact Nat.le_of_ble_eq_true rfl) rfl ?_
  refine x_goto Z 16 dL_kind_10 (by decide) ?_
  refine x_iconst Z dL_kind_16 ?_
  exact x_iret Z E (by first | exact ⟨0, rfl, Or.inr ⟨rfl, hP9, rfl⟩⟩ | exact ⟨1, rfl, Or.inl ⟨rfl, hnP, rfl⟩⟩) dL_kind_17 (Nat.le_of_ble_eq_true rfl) (Nat.le_of_ble_eq_true rfl)
abbrev rmc_L_kinds : Room := { frames := 9, cells := 3, slots := 18, locals := 165 }
set_option maxRecDepth 100000 in
theorem c_L_kinds {l : Launch} {s0 : State} {G : gK} {w : wd} (h0 : gS0 s0) (htr : l.stackTraces = false) {K : kA} {M : kM} {f : Int} {t : Int} {oc : Nat} {yo : Int64} {sv : Value} (hS : kS G w K M) (hf : inr f) (ht : inr t) (ho : w oc = some (eO 4 [.long yo, sv])) (hd : ¬ kP K oc) : gM l s0 G yL_kinds [Cond.codeWith yL_kinds cL_kinds 5 (some .int) [(0, 11, 14, 21)]] rmc_L_kinds [rv K.1, iv f, iv t, rv oc] w (fun v w' => ∃ z : Int, v = some (iv z) ∧ dQ w oc z (0 ≤ f ∧ f < 256 ∧ 0 ≤ t ∧ t < 256 ∧ f ≤ t) ((zI (forI (fun (c v : Int) => bOr v (bShl 1 (kin c))) f (t + 1) 0)).toInt64) sv w') (noX) := by
  refine g_ofH h0 htr (by decide +kernel) (Nat.le_of_ble_eq_true rfl) ?_
  intro b Z0 E
  have Z : gAm b l s0 G cL_kinds RL 5 rmc_L_kinds := Z0
  refine x_el (L' := [(0, rv K.1), (1, iv f), (2, iv t), (3, rv oc)]) rfl ?_
  refine x_aload_n Z dL_kinds_0 rfl rfl ?_
  refine x_aload_n Z dL_kinds_1 rfl rfl ?_
  refine x_iload_n Z dL_kinds_2 rfl rfl ?_
  refine x_iload_n Z dL_kinds_3 rfl rfl ?_
  refine x_callVx (ci := 3) (C := RX2) (T := TX2) (N := 4) Z okX2_kinds q557 q558 q559 rfl dL_kinds_4 (c_X2_kinds h0 htr hS (by assumption) (by assumption)) hS.1 ⟨Nat.le_of_ble_eq_true rfl, Nat.le_of_ble_eq_true rfl, Nat.le_of_ble_eq_true rfl, Nat.le_of_ble_eq_true rfl⟩ rfl rfl (Nat.le_of_ble_eq_true rfl) (fun X w9 hX => ?_) (fun v9 w9 hR => ?_)
  ·
    obtain ⟨rfl, e9, hnP⟩ := hX
    rw [e9]
    refine x_ct1 Z E q308 q228 rfl (by decide) (fun q9 => ?_)
    refine x_astore (L' := [(4, _), (0, _), (1, _), (2, _), (3, _)]) Z dL_kinds_14 (Nat.le_of_ble_eq_true rfl) rfl ?_
    refine x_iconst Z dL_kinds_16 ?_
    exact x_iret Z E (by first | exact ⟨0, rfl, Or.inr ⟨rfl, hP9, rfl⟩⟩ | exact ⟨1, rfl, Or.inl ⟨rfl, hnP, rfl⟩⟩) dL_kinds_17 (Nat.le_of_ble_eq_true rfl) (Nat.le_of_ble_eq_true rfl)
  obtain ⟨⟨rfl, e9⟩, hP9⟩ := hR
  refine x_ew e9 ?_
  have hS9 := hS
  have hf9 : fr (kP K) w w := fr.rf
  have ho9 := ho
  simp only [Option.toList_some, Option.toList_none, List.cons_append, List.nil_append]
  refine x_i2l Z dL_kinds_7 ?_
  refine x_putfN (ci := 4) (j := 0) (C := RX3) (T := TX3) (N := 2) (fs' := [_, _]) Z tyX3 tyX3_ok nmX3 inX3g rfl (by decide) q297 rfl rfl rfl rfl rfl dL_kinds_8 (by assumption) (by exact Nat.le_of_ble_eq_true rfl) rfl ?_
  refine x_goto Z 18 dL_kinds_11 (by decide) ?_
  refine x_iconst Z dL_kinds_18 ?_
  exact x_iret Z E (by first | exact ⟨0, rfl, Or.inr ⟨rfl, hP9, rfl⟩⟩ | exact ⟨1, rfl, Or.inl ⟨rfl, hnP, rfl⟩⟩) dL_kinds_19 (Nat.le_of_ble_eq_true rfl) (Nat.le_of_ble_eq_true rfl)
abbrev rmc_L_kindsOf : Room := { frames := 12, cells := 126, slots := 16496, locals := 236 }
set_option maxRecDepth 100000 in
theorem c_L_kindsOf {l : Launch} {s0 : State} {G : gK} {w : wd} (h0 : gS0 s0) (htr : l.stackTraces = false) {K : kA} {M : kM} {t : Int} {oc : Nat} {yo : Int64} {sv : Value} (hS : kS G w K M) (ht : inr t) (ho : w oc = some (eO 4 [.long yo, sv])) (hd : ¬ kP K oc) : gM l s0 G yL_kindsOf [Cond.codeWith yL_kindsOf cL_kindsOf 4 (some .int) [(0, 9, 12, 19)]] rmc_L_kindsOf [rv K.1, iv t, rv oc] w (fun v w' => (∃ z : Int, v = some (iv z)) ∧ dV G w K M oc w') (noX) := by
  refine g_ofH h0 htr (by decide +kernel) (Nat.le_of_ble_eq_true rfl) ?_
  intro b Z0 E
  have Z : gAm b l s0 G cL_kindsOf RL 4 rmc_L_kindsOf := Z0
  refine x_el (L' := [(0, rv K.1), (1, iv t), (2, rv oc)]) rfl ?_
  refine x_aload_n Z dL_kindsOf_0 rfl rfl ?_
  refine x_aload_n Z dL_kindsOf_1 rfl rfl ?_
  refine x_iload_n Z dL_kindsOf_2 rfl rfl ?_
  refine x_callVx (ci := 3) (C := RX2) (T := TX2) (N := 4) Z okX2_kindsOf q883 q884 q885 rfl dL_kindsOf_3 (c_X2_kindsOf h0 htr hS (by assumption)) hS.1 ⟨Nat.le_of_ble_eq_true rfl, Nat.le_of_ble_eq_true rfl, Nat.le_of_ble_eq_true rfl, Nat.le_of_ble_eq_true rfl⟩ rfl rfl (Nat.le_of_ble_eq_true rfl) (fun X w9 hX => ?_) (fun v9 w9 hR => ?_)
  ·
    obtain ⟨rfl, e9⟩ := hX
    rw [e9]
    refine x_ct1 Z E q307 q319 rfl (by decide) (fun q9 => ?_)
    refine x_astore_n (L' := [(3, _), (0, _), (1, _), (2, _)]) Z dL_kindsOf_12 rfl (Nat.le_of_ble_eq_true rfl) rfl ?_
    refine x_iconst Z dL_kindsOf_13 ?_
    exact x_iret Z E (by first | exact ⟨⟨_, rfl⟩, dV.of hS9 hf9 hd⟩ | exact ⟨⟨_, rfl⟩, dV.rf hS ho⟩) dL_kindsOf_14 (Nat.le_of_ble_eq_true rfl) (Nat.le_of_ble_eq_true rfl)
  obtain ⟨⟨q9, rfl⟩, e9⟩ := hR
  refine x_ew e9 ?_
  have hS9 := hS
  have hf9 : fr (kP K) w w := fr.rf
  have ho9 := ho
  simp only [Option.toList_some, Option.toList_none, List.cons_append, List.nil_append]
  refine x_putfN (ci := 4) (j := 1) (C := RX3) (T := TX3) (N := 2) (fs' := [_, _]) Z tyX3 tyX3_ok nmX3 inX3g rfl (by decide) q298 rfl rfl rfl rfl rfl dL_kindsOf_6 (by assumption) (by exact Nat.le_of_ble_eq_true rfl) rfl ?_
  refine x_goto Z 15 dL_kindsOf_9 (by decide) ?_
  refine x_iconst Z dL_kindsOf_15 ?_
  exact x_iret Z E (by first | exact ⟨⟨_, rfl⟩, dV.of hS9 hf9 hd⟩ | exact ⟨⟨_, rfl⟩, dV.rf hS ho⟩) dL_kindsOf_16 (Nat.le_of_ble_eq_true rfl) (Nat.le_of_ble_eq_true rfl)
abbrev rmc_L_length : Room := { frames := 8, cells := 1, slots := 6, locals := 142 }
set_option maxRecDepth 100000 in
theorem c_L_length {l : Launch} {s0 : State} {G : gK} {w : wd} (h0 : gS0 s0) (htr : l.stackTraces = false) {K : kA} {M : kM} {t : Int} {oc : Nat} {yo : Int64} {sv : Value} (hS : kS G w K M) (ht : inr t) (ho : w oc = some (eO 4 [.long yo, sv])) (hd : ¬ kP K oc) : gM l s0 G yL_length [Cond.codeWith yL_length cL_length 4 (some .int) [(0, 10, 13, 19)]] rmc_L_length [rv K.1, iv t, rv oc] w (fun v w' => ∃ z : Int, v = some (iv z) ∧ dT G w K M oc (0 ≤ t ∧ t < 3) (True) (fun y => y = (zI (M.1 t)).toInt64) sv z w') (noX) := by
  refine g_ofH h0 htr (by decide +kernel) (Nat.le_of_ble_eq_true rfl) ?_
  intro b Z0 E
  have Z : gAm b l s0 G cL_length RL 4 rmc_L_length := Z0
  refine x_el (L' := [(0, rv K.1), (1, iv t), (2, rv oc)]) rfl ?_
  refine x_aload_n Z dL_length_0 rfl rfl ?_
  refine x_aload_n Z dL_length_1 rfl rfl ?_
  refine x_iload_n Z dL_length_2 rfl rfl ?_
  refine x_callVx (ci := 3) (C := RX2) (T := TX2) (N := 4) Z okX2_length q585 q586 q587 rfl dL_length_3 (c_X2_length h0 htr hS (by assumption)) hS.1 ⟨Nat.le_of_ble_eq_true rfl, Nat.le_of_ble_eq_true rfl, Nat.le_of_ble_eq_true rfl, Nat.le_of_ble_eq_true rfl⟩ rfl rfl (Nat.le_of_ble_eq_true rfl) (fun X w9 hX => ?_) (fun v9 w9 hR => ?_)
  ·
    obtain ⟨rfl, e9, hn1⟩ := hX
    rw [e9]
    refine x_ct1 Z E q307 q319 rfl (by decide) (fun q9 => ?_)
    refine x_astore_n (L' := [(3, _), (0, _), (1, _), (2, _)]) Z dL_length_13 rfl (Nat.le_of_ble_eq_true rfl) rfl ?_
    refine x_iconst Z dL_length_14 ?_
    exact x_iret Z E (by first | exact ⟨0, rfl, dT.of hP9 trivial hS9 rfl hf9 hd⟩ | exact ⟨1, rfl, Or.inl ⟨rfl, hn1, rfl⟩⟩ | exact ⟨2, rfl, Or.inr (Or.inl ⟨rfl, ho1, hn2, rfl⟩)⟩) dL_length_15 (Nat.le_of_ble_eq_true rfl) (Nat.le_of_ble_eq_true rfl)
  obtain ⟨⟨rfl, e9⟩, hP9⟩ := hR
  refine x_ew e9 ?_
  have hS9 := hS
  have hf9 : fr (kP K) w w := fr.rf
  have ho9 := ho
  simp only [Option.toList_some, Option.toList_none, List.cons_append, List.nil_append]
  refine x_i2l Z dL_length_6 ?_
  refine x_putfN (ci := 4) (j := 0) (C := RX3) (T := TX3) (N := 2) (fs' := [_, _]) Z tyX3 tyX3_ok nmX3 inX3g rfl (by decide) q297 rfl rfl rfl rfl rfl dL_length_7 (by assumption) (by exact Nat.le_of_ble_eq_true rfl) rfl ?_
  refine x_goto Z 16 dL_length_10 (by decide) ?_
  refine x_iconst Z dL_length_16 ?_
  exact x_iret Z E (by first | exact ⟨0, rfl, dT.of hP9 trivial hS9 rfl hf9 hd⟩ | exact ⟨1, rfl, Or.inl ⟨rfl, hn1, rfl⟩⟩ | exact ⟨2, rfl, Or.inr (Or.inl ⟨rfl, ho1, hn2, rfl⟩)⟩) dL_length_17 (Nat.le_of_ble_eq_true rfl) (Nat.le_of_ble_eq_true rfl)
abbrev rmc_L_longest : Room := { frames := 8, cells := 2, slots := 12, locals := 144 }
set_option maxRecDepth 100000 in
theorem c_L_longest {l : Launch} {s0 : State} {G : gK} {w : wd} (h0 : gS0 s0) (htr : l.stackTraces = false) {K : kA} {M : kM} {t : Int} {p : Int} {oc : Nat} {yo : Int64} {sv : Value} (hS : kS G w K M) (ht : inr t) (hp : inr p) (ho : w oc = some (eO 4 [.long yo, sv])) (hd : ¬ kP K oc) : gM l s0 G yL_longest [Cond.codeWith yL_longest cL_longest 5 (some .int) [(0, 11, 14, 19)]] rmc_L_longest [rv K.1, iv t, iv p, rv oc] w (fun v w' => ∃ z : Int, v = some (iv z) ∧ dT G w K M oc ((0 ≤ t ∧ t < 3) ∧ 0 ≤ p ∧ p < M.1 t) (True) (fun y => y = (zI (lon (M.1 t) (M.2.1 t) p)).toInt64) sv z w') (noX) := by
  refine g_ofH h0 htr (by decide +kernel) (Nat.le_of_ble_eq_true rfl) ?_
  intro b Z0 E
  have Z : gAm b l s0 G cL_longest RL 5 rmc_L_longest := Z0
  refine x_el (L' := [(0, rv K.1), (1, iv t), (2, iv p), (3, rv oc)]) rfl ?_
  refine x_aload_n Z dL_longest_0 rfl rfl ?_
  refine x_aload_n Z dL_longest_1 rfl rfl ?_
  refine x_iload_n Z dL_longest_2 rfl rfl ?_
  refine x_iload_n Z dL_longest_3 rfl rfl ?_
  refine x_callVx (ci := 3) (C := RX2) (T := TX2) (N := 4) Z okX2_longest q953 q954 q955 rfl dL_longest_4 (c_X2_longest h0 htr hS (by assumption) (by assumption)) hS.1 ⟨Nat.le_of_ble_eq_true rfl, Nat.le_of_ble_eq_true rfl, Nat.le_of_ble_eq_true rfl, Nat.le_of_ble_eq_true rfl⟩ rfl rfl (Nat.le_of_ble_eq_true rfl) (fun X w9 hX => ?_) (fun v9 w9 hR => ?_)
  ·
    obtain ⟨rfl, e9, hn1⟩ := hX
    rw [e9]
    refine x_ct1 Z E q307 q319 rfl (by decide) (fun q9 => ?_)
    refine x_astore (L' := [(4, _), (0, _), (1, _), (2, _), (3, _)]) Z dL_longest_14 (Nat.le_of_ble_eq_true rfl) rfl ?_
    refine x_iconst Z dL_longest_16 ?_
    exact x_iret Z E (by first | exact ⟨0, rfl, dT.of hP9 trivial hS9 rfl hf9 hd⟩ | exact ⟨1, rfl, Or.inl ⟨rfl, hn1, rfl⟩⟩ | exact ⟨2, rfl, Or.inr (Or.inl ⟨rfl, ho1, hn2, rfl⟩)⟩) dL_longest_17 (Nat.le_of_ble_eq_true rfl) (Nat.le_of_ble_eq_true rfl)
  obtain ⟨⟨rfl, e9⟩, hP9⟩ := hR
  refine x_ew e9 ?_
  have hS9 := hS
  have hf9 : fr (kP K) w w := fr.rf
  have ho9 := ho
  simp only [Option.toList_some, Option.toList_none, List.cons_append, List.nil_append]
  refine x_i2l Z dL_longest_7 ?_
  refine x_putfN (ci := 4) (j := 0) (C := RX3) (T := TX3) (N := 2) (fs' := [_, _]) Z tyX3 tyX3_ok nmX3 inX3g rfl (by decide) q297 rfl rfl rfl rfl rfl dL_longest_8 (by assumption) (by exact Nat.le_of_ble_eq_true rfl) rfl ?_
  refine x_goto Z 18 dL_longest_11 (by decide) ?_
  refine x_iconst Z dL_longest_18 ?_
  exact x_iret Z E (by first | exact ⟨0, rfl, dT.of hP9 trivial hS9 rfl hf9 hd⟩ | exact ⟨1, rfl, Or.inl ⟨rfl, hn1, rfl⟩⟩ | exact ⟨2, rfl, Or.inr (Or.inl ⟨rfl, ho1, hn2, rfl⟩)⟩) dL_longest_19 (Nat.le_of_ble_eq_true rfl) (Nat.le_of_ble_eq_true rfl)
abbrev rmc_L_mend : Room := { frames := 8, cells := 1, slots := 6, locals := 145 }
set_option maxRecDepth 100000 in
theorem c_L_mend {l : Launch} {s0 : State} {G : gK} {w : wd} (h0 : gS0 s0) (htr : l.stackTraces = false) {K : kA} {M : kM} {t : Int} {oc : Nat} {yo : Int64} {sv : Value} (hS : kS G w K M) (ht : inr t) (ho : w oc = some (eO 4 [.long yo, sv])) (hd : ¬ kP K oc) : gM l s0 G yL_mend [Cond.codeWith yL_mend cL_mend 4 (some .int) [(0, 10, 13, 19)]] rmc_L_mend [rv K.1, iv t, rv oc] w (fun v w' => ∃ z : Int, v = some (iv z) ∧ dA G w K M oc (0 ≤ t ∧ t < 3) (True) (acSift M.1 M.2.1 t (mnd (M.1 t) (M.2.1 t))) sv z w') (noX) := by
  refine g_ofH h0 htr (by decide +kernel) (Nat.le_of_ble_eq_true rfl) ?_
  intro b Z0 E
  have Z : gAm b l s0 G cL_mend RL 4 rmc_L_mend := Z0
  refine x_el (L' := [(0, rv K.1), (1, iv t), (2, rv oc)]) rfl ?_
  refine x_aload_n Z dL_mend_0 rfl rfl ?_
  refine x_aload_n Z dL_mend_1 rfl rfl ?_
  refine x_iload_n Z dL_mend_2 rfl rfl ?_
  refine x_callVx (ci := 3) (C := RX2) (T := TX2) (N := 4) Z okX2_mend q489 q490 q491 rfl dL_mend_3 (c_X2_mend h0 htr hS (by assumption)) hS.1 ⟨Nat.le_of_ble_eq_true rfl, Nat.le_of_ble_eq_true rfl, Nat.le_of_ble_eq_true rfl, Nat.le_of_ble_eq_true rfl⟩ rfl rfl (Nat.le_of_ble_eq_true rfl) (fun X w9 hX => ?_) (fun v9 w9 hR => ?_)
  ·
    obtain ⟨rfl, e9, hn1⟩ := hX
    rw [e9]
    refine x_ct1 Z E q307 q319 rfl (by decide) (fun q9 => ?_)
    refine x_astore_n (L' := [(3, _), (0, _), (1, _), (2, _)]) Z dL_mend_13 rfl (Nat.le_of_ble_eq_true rfl) rfl ?_
    refine x_iconst Z dL_mend_14 ?_
    exact x_iret Z E (by first | exact ⟨0, rfl, dA.of hP9 trivial hS9 hd9 hf9 hd⟩ | exact ⟨1, rfl, Or.inl ⟨rfl, hn1, rfl⟩⟩ | exact ⟨2, rfl, Or.inr (Or.inl ⟨rfl, ho1, hn2, rfl⟩)⟩) dL_mend_15 (Nat.le_of_ble_eq_true rfl) (Nat.le_of_ble_eq_true rfl)
  obtain ⟨⟨z, rfl, M9, hS9, hd9, hf9⟩, hP9⟩ := hR
  have ho9 := hf9.at hd ho
  simp only [Option.toList_some, Option.toList_none, List.cons_append, List.nil_append]
  refine x_i2l Z dL_mend_6 ?_
  refine x_putfN (ci := 4) (j := 0) (C := RX3) (T := TX3) (N := 2) (fs' := [_, _]) Z tyX3 tyX3_ok nmX3 inX3g rfl (by decide) q297 rfl rfl rfl rfl rfl dL_mend_7 (by assumption) (by exact Nat.le_of_ble_eq_true rfl) rfl ?_
  refine x_goto Z 16 dL_mend_10 (by decide) ?_
  refine x_iconst Z dL_mend_16 ?_
  exact x_iret Z E (by first | exact ⟨0, rfl, dA.of hP9 trivial hS9 hd9 hf9 hd⟩ | exact ⟨1, rfl, Or.inl ⟨rfl, hn1, rfl⟩⟩ | exact ⟨2, rfl, Or.inr (Or.inl ⟨rfl, ho1, hn2, rfl⟩)⟩) dL_mend_17 (Nat.le_of_ble_eq_true rfl) (Nat.le_of_ble_eq_true rfl)
abbrev rmc_L_next : Room := { frames := 8, cells := 2, slots := 12, locals := 144 }
set_option maxRecDepth 100000 in
theorem c_L_next {l : Launch} {s0 : State} {G : gK} {w : wd} (h0 : gS0 s0) (htr : l.stackTraces = false) {K : kA} {M : kM} {q : Int} {f : Int} {o : Bool} {oc : Nat} {yo : Int64} {sv : Value} (hS : kS G w K M) (hq : inr q) (hf : inr f) (ho : w oc = some (eO 4 [.long yo, sv])) (hd : ¬ kP K oc) : gM l s0 G yL_next [Cond.codeWith yL_next cL_next 6 (some .int) [(0, 13, 16, 21)]] rmc_L_next [rv K.1, iv q, iv f, iv (b2 o), rv oc] w (fun v w' => ∃ z : Int, v = some (iv z) ∧ dQ w oc z (((0 ≤ q ∧ q < 14)) ∧ 0 ≤ f ∧ f < 256) ((zI ((if findI (fun c => so c q == o) f 256 < 256 then findI (fun c => so c q == o) f 256 else -1))).toInt64) sv w') (noX) := by
  refine g_ofH h0 htr (by decide +kernel) (Nat.le_of_ble_eq_true rfl) ?_
  intro b Z0 E
  have Z : gAm b l s0 G cL_next RL 6 rmc_L_next := Z0
  refine x_el (L' := [(0, rv K.1), (1, iv q), (2, iv f), (3, iv (b2 o)), (4, rv oc)]) rfl ?_
  refine x_aload Z dL_next_0 rfl ?_
  refine x_aload_n Z dL_next_2 rfl rfl ?_
  refine x_iload_n Z dL_next_3 rfl rfl ?_
  refine x_iload_n Z dL_next_4 rfl rfl ?_
  refine x_iload_n Z dL_next_5 rfl rfl ?_
  refine x_callVx (ci := 3) (C := RX2) (T := TX2) (N := 4) Z okX2_next q526 q527 q528 rfl dL_next_6 (c_X2_next h0 htr hS (by assumption) (by assumption)) hS.1 ⟨Nat.le_of_ble_eq_true rfl, Nat.le_of_ble_eq_true rfl, Nat.le_of_ble_eq_true rfl, Nat.le_of_ble_eq_true rfl⟩ rfl rfl (Nat.le_of_ble_eq_true rfl) (fun X w9 hX => ?_) (fun v9 w9 hR => ?_)
  ·
    obtain ⟨rfl, e9, hnP⟩ := hX
    rw [e9]
    refine x_ct1 Z E q308 q228 rfl (by decide) (fun q9 => ?_)
    refine x_astore (L' := [(5, _), (0, _), (1, _), (2, _), (3, _), (4, _)]) Z dL_next_16 (Nat.le_of_ble_eq_true rfl) rfl ?_
    refine x_iconst Z dL_next_18 ?_
    exact x_iret Z E (by first | exact ⟨0, rfl, Or.inr ⟨rfl, hP9, rfl⟩⟩ | exact ⟨1, rfl, Or.inl ⟨rfl, hnP, rfl⟩⟩) dL_next_19 (Nat.le_of_ble_eq_true rfl) (Nat.le_of_ble_eq_true rfl)
  obtain ⟨⟨rfl, e9⟩, hP9⟩ := hR
  refine x_ew e9 ?_
  have hS9 := hS
  have hf9 : fr (kP K) w w := fr.rf
  have ho9 := ho
  simp only [Option.toList_some, Option.toList_none, List.cons_append, List.nil_append]
  refine x_i2l Z dL_next_9 ?_
  refine x_putfN (ci := 4) (j := 0) (C := RX3) (T := TX3) (N := 2) (fs' := [_, _]) Z tyX3 tyX3_ok nmX3 inX3g rfl (by decide) q297 rfl rfl rfl rfl rfl dL_next_10 (by assumption) (by exact Nat.le_of_ble_eq_true rfl) rfl ?_
  refine x_goto Z 20 dL_next_13 (by decide) ?_
  refine x_iconst Z dL_next_20 ?_
  exact x_iret Z E (by first | exact ⟨0, rfl, Or.inr ⟨rfl, hP9, rfl⟩⟩ | exact ⟨1, rfl, Or.inl ⟨rfl, hnP, rfl⟩⟩) dL_next_21 (Nat.le_of_ble_eq_true rfl) (Nat.le_of_ble_eq_true rfl)
abbrev rmc_L_nth : Room := { frames := 8, cells := 2, slots := 12, locals := 144 }
set_option maxRecDepth 100000 in
theorem c_L_nth {l : Launch} {s0 : State} {G : gK} {w : wd} (h0 : gS0 s0) (htr : l.stackTraces = false) {K : kA} {M : kM} {k1 : Int} {m : Int} {oc : Nat} {yo : Int64} {sv : Value} (hS : kS G w K M) (hk1 : inr k1) (hm : inr m) (ho : w oc = some (eO 4 [.long yo, sv])) (hd : ¬ kP K oc) : gM l s0 G yL_nth [Cond.codeWith yL_nth cL_nth 5 (some .int) [(0, 11, 14, 21)]] rmc_L_nth [rv K.1, iv k1, iv m, rv oc] w (fun v w' => ∃ z : Int, v = some (iv z) ∧ dQ w oc z (((0 ≤ k1 ∧ k1 < 31)) ∧ 0 ≤ m ∧ m ≤ 255) ((zI (nthI k1 0 m)).toInt64) sv w') (noX) := by
  refine g_ofH h0 htr (by decide +kernel) (Nat.le_of_ble_eq_true rfl) ?_
  intro b Z0 E
  have Z : gAm b l s0 G cL_nth RL 5 rmc_L_nth := Z0
  refine x_el (L' := [(0, rv K.1), (1, iv k1), (2, iv m), (3, rv oc)]) rfl ?_
  refine x_aload_n Z dL_nth_0 rfl rfl ?_
  refine x_aload_n Z dL_nth_1 rfl rfl ?_
  refine x_iload_n Z dL_nth_2 rfl rfl ?_
  refine x_iload_n Z dL_nth_3 rfl rfl ?_
  refine x_callVx (ci := 3) (C := RX2) (T := TX2) (N := 4) Z okX2_nth q519 q520 q521 rfl dL_nth_4 (c_X2_nth h0 htr hS (by assumption) (by assumption)) hS.1 ⟨Nat.le_of_ble_eq_true rfl, Nat.le_of_ble_eq_true rfl, Nat.le_of_ble_eq_true rfl, Nat.le_of_ble_eq_true rfl⟩ rfl rfl (Nat.le_of_ble_eq_true rfl) (fun X w9 hX => ?_) (fun v9 w9 hR => ?_)
  ·
    obtain ⟨rfl, e9, hnP⟩ := hX
    rw [e9]
    refine x_ct1 Z E q308 q228 rfl (by decide) (fun q9 => ?_)
    refine x_astore (L' := [(4, _), (0, _), (1, _), (2, _), (3, _)]) Z dL_nth_14 (Nat.le_of_ble_eq_true rfl) rfl ?_
    refine x_iconst Z dL_nth_16 ?_
    exact x_iret Z E (by first | exact ⟨0, rfl, Or.inr ⟨rfl, hP9, rfl⟩⟩ | exact ⟨1, rfl, Or.inl ⟨rfl, hnP, rfl⟩⟩) dL_nth_17 (Nat.le_of_ble_eq_true rfl) (Nat.le_of_ble_eq_true rfl)
  obtain ⟨⟨rfl, e9⟩, hP9⟩ := hR
  refine x_ew e9 ?_
  have hS9 := hS
  have hf9 : fr (kP K) w w := fr.rf
  have ho9 := ho
  simp only [Option.toList_some, Option.toList_none, List.cons_append, List.nil_append]
  refine x_i2l Z dL_nth_7 ?_
  refine x_putfN (ci := 4) (j := 0) (C := RX3) (T := TX3) (N := 2) (fs' := [_, _]) Z tyX3 tyX3_ok nmX3 inX3g rfl (by decide) q297 rfl rfl rfl rfl rfl dL_nth_8 (by assumption) (by exact Nat.le_of_ble_eq_true rfl) rfl ?_
  refine x_goto Z 18 dL_nth_11 (by decide) ?_
  refine x_iconst Z dL_nth_18 ?_
  exact x_iret Z E (by first | exact ⟨0, rfl, Or.inr ⟨rfl, hP9, rfl⟩⟩ | exact ⟨1, rfl, Or.inl ⟨rfl, hnP, rfl⟩⟩) dL_nth_19 (Nat.le_of_ble_eq_true rfl) (Nat.le_of_ble_eq_true rfl)
abbrev rmc_L_ofKind : Room := { frames := 9, cells := 4, slots := 24, locals := 166 }
set_option maxRecDepth 100000 in
theorem c_L_ofKind {l : Launch} {s0 : State} {G : gK} {w : wd} (h0 : gS0 s0) (htr : l.stackTraces = false) {K : kA} {M : kM} {k1 : Int} {f : Int} {t : Int} {oc : Nat} {yo : Int64} {sv : Value} (hS : kS G w K M) (hk1 : inr k1) (hf : inr f) (ht : inr t) (ho : w oc = some (eO 4 [.long yo, sv])) (hd : ¬ kP K oc) : gM l s0 G yL_ofKind [Cond.codeWith yL_ofKind cL_ofKind 6 (some .int) [(0, 13, 16, 21)]] rmc_L_ofKind [rv K.1, iv k1, iv f, iv t, rv oc] w (fun v w' => ∃ z : Int, v = some (iv z) ∧ dQ w oc z (((0 ≤ k1 ∧ k1 < 31)) ∧ 0 ≤ f ∧ f < 256 ∧ 0 ≤ t ∧ t < 256 ∧ f ≤ t) ((zI (forI (cst (fun c => decide (kin c = k1))) f (t + 1) 0)).toInt64) sv w') (noX) := by
  refine g_ofH h0 htr (by decide +kernel) (Nat.le_of_ble_eq_true rfl) ?_
  intro b Z0 E
  have Z : gAm b l s0 G cL_ofKind RL 6 rmc_L_ofKind := Z0
  refine x_el (L' := [(0, rv K.1), (1, iv k1), (2, iv f), (3, iv t), (4, rv oc)]) rfl ?_
  refine x_aload Z dL_ofKind_0 rfl ?_
  refine x_aload_n Z dL_ofKind_2 rfl rfl ?_
  refine x_iload_n Z dL_ofKind_3 rfl rfl ?_
  refine x_iload_n Z dL_ofKind_4 rfl rfl ?_
  refine x_iload_n Z dL_ofKind_5 rfl rfl ?_
  refine x_callVx (ci := 3) (C := RX2) (T := TX2) (N := 4) Z okX2_ofKind q540 q541 q542 rfl dL_ofKind_6 (c_X2_ofKind h0 htr hS (by assumption) (by assumption) (by assumption)) hS.1 ⟨Nat.le_of_ble_eq_true rfl, Nat.le_of_ble_eq_true rfl, Nat.le_of_ble_eq_true rfl, Nat.le_of_ble_eq_true rfl⟩ rfl rfl (Nat.le_of_ble_eq_true rfl) (fun X w9 hX => ?_) (fun v9 w9 hR => ?_)
  ·
    obtain ⟨rfl, e9, hnP⟩ := hX
    rw [e9]
    refine x_ct1 Z E q308 q228 rfl (by decide) (fun q9 => ?_)
    refine x_astore (L' := [(5, _), (0, _), (1, _), (2, _), (3, _), (4, _)]) Z dL_ofKind_16 (Nat.le_of_ble_eq_true rfl) rfl ?_
    refine x_iconst Z dL_ofKind_18 ?_
    exact x_iret Z E (by first | exact ⟨0, rfl, Or.inr ⟨rfl, hP9, rfl⟩⟩ | exact ⟨1, rfl, Or.inl ⟨rfl, hnP, rfl⟩⟩) dL_ofKind_19 (Nat.le_of_ble_eq_true rfl) (Nat.le_of_ble_eq_true rfl)
  obtain ⟨⟨rfl, e9⟩, hP9⟩ := hR
  refine x_ew e9 ?_
  have hS9 := hS
  have hf9 : fr (kP K) w w := fr.rf
  have ho9 := ho
  simp only [Option.toList_some, Option.toList_none, List.cons_append, List.nil_append]
  refine x_i2l Z dL_ofKind_9 ?_
  refine x_putfN (ci := 4) (j := 0) (C := RX3) (T := TX3) (N := 2) (fs' := [_, _]) Z tyX3 tyX3_ok nmX3 inX3g rfl (by decide) q297 rfl rfl rfl rfl rfl dL_ofKind_10 (by assumption) (by exact Nat.le_of_ble_eq_true rfl) rfl ?_
  refine x_goto Z 20 dL_ofKind_13 (by decide) ?_
  refine x_iconst Z dL_ofKind_20 ?_
  exact x_iret Z E (by first | exact ⟨0, rfl, Or.inr ⟨rfl, hP9, rfl⟩⟩ | exact ⟨1, rfl, Or.inl ⟨rfl, hnP, rfl⟩⟩) dL_ofKind_21 (Nat.le_of_ble_eq_true rfl) (Nat.le_of_ble_eq_true rfl)
abbrev rmc_L_ofQuestion : Room := { frames := 9, cells := 4, slots := 24, locals := 166 }
set_option maxRecDepth 100000 in
theorem c_L_ofQuestion {l : Launch} {s0 : State} {G : gK} {w : wd} (h0 : gS0 s0) (htr : l.stackTraces = false) {K : kA} {M : kM} {q : Int} {f : Int} {t : Int} {oc : Nat} {yo : Int64} {sv : Value} (hS : kS G w K M) (hq : inr q) (hf : inr f) (ht : inr t) (ho : w oc = some (eO 4 [.long yo, sv])) (hd : ¬ kP K oc) : gM l s0 G yL_ofQuestion [Cond.codeWith yL_ofQuestion cL_ofQuestion 6 (some .int) [(0, 13, 16, 21)]] rmc_L_ofQuestion [rv K.1, iv q, iv f, iv t, rv oc] w (fun v w' => ∃ z : Int, v = some (iv z) ∧ dQ w oc z (((0 ≤ q ∧ q < 14)) ∧ 0 ≤ f ∧ f < 256 ∧ 0 ≤ t ∧ t < 256 ∧ f ≤ t) ((zI (forI (cst (fun c => so c q)) f (t + 1) 0)).toInt64) sv w') (noX) := by
  refine g_ofH h0 htr (by decide +kernel) (Nat.le_of_ble_eq_true rfl) ?_
  intro b Z0 E
  have Z : gAm b l s0 G cL_ofQuestion RL 6 rmc_L_ofQuestion := Z0
  refine x_el (L' := [(0, rv K.1), (1, iv q), (2, iv f), (3, iv t), (4, rv oc)]) rfl ?_
  refine x_aload Z dL_ofQuestion_0 rfl ?_
  refine x_aload_n Z dL_ofQuestion_2 rfl rfl ?_
  refine x_iload_n Z dL_ofQuestion_3 rfl rfl ?_
  refine x_iload_n Z dL_ofQuestion_4 rfl rfl ?_
  refine x_iload_n Z dL_ofQuestion_5 rfl rfl ?_
  refine x_callVx (ci := 3) (C := RX2) (T := TX2) (N := 4) Z okX2_ofQuestion q550 q551 q552 rfl dL_ofQuestion_6 (c_X2_ofQuestion h0 htr hS (by assumption) (by assumption) (by assumption)) hS.1 ⟨Nat.le_of_ble_eq_true rfl, Nat.le_of_ble_eq_true rfl, Nat.le_of_ble_eq_true rfl, Nat.le_of_ble_eq_true rfl⟩ rfl rfl (Nat.le_of_ble_eq_true rfl) (fun X w9 hX => ?_) (fun v9 w9 hR => ?_)
  ·
    obtain ⟨rfl, e9, hnP⟩ := hX
    rw [e9]
    refine x_ct1 Z E q308 q228 rfl (by decide) (fun q9 => ?_)
    refine x_astore (L' := [(5, _), (0, _), (1, _), (2, _), (3, _), (4, _)]) Z dL_ofQuestion_16 (Nat.le_of_ble_eq_true rfl) rfl ?_
    refine x_iconst Z dL_ofQuestion_18 ?_
    exact x_iret Z E (by first | exact ⟨0, rfl, Or.inr ⟨rfl, hP9, rfl⟩⟩ | exact ⟨1, rfl, Or.inl ⟨rfl, hnP, rfl⟩⟩) dL_ofQuestion_19 (Nat.le_of_ble_eq_true rfl) (Nat.le_of_ble_eq_true rfl)
  obtain ⟨⟨rfl, e9⟩, hP9⟩ := hR
  refine x_ew e9 ?_
  have hS9 := hS
  have hf9 : fr (kP K) w w := fr.rf
  have ho9 := ho
  simp only [Option.toList_some, Option.toList_none, List.cons_append, List.nil_append]
  refine x_i2l Z dL_ofQuestion_9 ?_
  refine x_putfN (ci := 4) (j := 0) (C := RX3) (T := TX3) (N := 2) (fs' := [_, _]) Z tyX3 tyX3_ok nmX3 inX3g rfl (by decide) q297 rfl rfl rfl rfl rfl dL_ofQuestion_10 (by assumption) (by exact Nat.le_of_ble_eq_true rfl) rfl ?_
  refine x_goto Z 20 dL_ofQuestion_13 (by decide) ?_
  refine x_iconst Z dL_ofQuestion_20 ?_
  exact x_iret Z E (by first | exact ⟨0, rfl, Or.inr ⟨rfl, hP9, rfl⟩⟩ | exact ⟨1, rfl, Or.inl ⟨rfl, hnP, rfl⟩⟩) dL_ofQuestion_21 (Nat.le_of_ble_eq_true rfl) (Nat.le_of_ble_eq_true rfl)
abbrev rmc_L_parted : Room := { frames := 8, cells := 2, slots := 12, locals := 144 }
set_option maxRecDepth 100000 in
theorem c_L_parted {l : Launch} {s0 : State} {G : gK} {w : wd} (h0 : gS0 s0) (htr : l.stackTraces = false) {K : kA} {M : kM} {t : Int} {m : Int} {oc : Nat} {yo : Int64} {sv : Value} (hS : kS G w K M) (ht : inr t) (hm : inr m) (ho : w oc = some (eO 4 [.long yo, sv])) (hd : ¬ kP K oc) : gM l s0 G yL_parted [Cond.codeWith yL_parted cL_parted 5 (some .int) [(0, 11, 14, 19), (0, 11, 18, 21)]] rmc_L_parted [rv K.1, iv t, iv m, rv oc] w (fun v w' => ∃ z : Int, v = some (iv z) ∧ dT G w K M oc (0 ≤ t ∧ t < 3) (cutS (M.1 t) m) (fun y => y = (zI (ptI (M.1 t) (M.2.1 t) m 1 0 0)).toInt64) sv z w') (noX) := by
  refine g_ofH h0 htr (by decide +kernel) (Nat.le_of_ble_eq_true rfl) ?_
  intro b Z0 E
  have Z : gAm b l s0 G cL_parted RL 5 rmc_L_parted := Z0
  refine x_el (L' := [(0, rv K.1), (1, iv t), (2, iv m), (3, rv oc)]) rfl ?_
  refine x_aload_n Z dL_parted_0 rfl rfl ?_
  refine x_aload_n Z dL_parted_1 rfl rfl ?_
  refine x_iload_n Z dL_parted_2 rfl rfl ?_
  refine x_iload_n Z dL_parted_3 rfl rfl ?_
  refine x_callVx (ci := 3) (C := RX2) (T := TX2) (N := 4) Z okX2_parted q1008 q1009 q1010 rfl dL_parted_4 (c_X2_parted h0 htr hS (by assumption) (by assumption)) hS.1 ⟨Nat.le_of_ble_eq_true rfl, Nat.le_of_ble_eq_true rfl, Nat.le_of_ble_eq_true rfl, Nat.le_of_ble_eq_true rfl⟩ rfl rfl (Nat.le_of_ble_eq_true rfl) (fun X w9 hX => ?_) (fun v9 w9 hR => ?_)
  ·
    rcases hX with ⟨⟨rfl, hn1⟩ | ⟨rfl, ho1, hn2⟩, e9⟩ <;> rw [e9]
    refine x_ct2 Z E q307 q319 rfl (by decide) (fun q9 => ?_)
    refine x_astore (L' := [(4, _), (0, _), (1, _), (2, _), (3, _)]) Z dL_parted_14 (Nat.le_of_ble_eq_true rfl) rfl ?_
    refine x_iconst Z dL_parted_16 ?_
    exact x_iret Z E (by first | exact ⟨0, rfl, dT.of hP9.1 hP9.2 hS9 rfl hf9 hd⟩ | exact ⟨1, rfl, Or.inl ⟨rfl, hn1, rfl⟩⟩ | exact ⟨2, rfl, Or.inr (Or.inl ⟨rfl, ho1, hn2, rfl⟩)⟩) dL_parted_17 (Nat.le_of_ble_eq_true rfl) (Nat.le_of_ble_eq_true rfl)
    refine x_ct3 Z E q307 (by decide) q308 q228 rfl (by decide) (fun q9 => ?_)
    refine x_astore (L' := [(4, _), (0, _), (1, _), (2, _), (3, _)]) Z dL_parted_18 (Nat.le_of_ble_eq_true rfl) rfl ?_
    refine x_iconst Z dL_parted_20 ?_
    exact x_iret Z E (by first | exact ⟨0, rfl, dT.of hP9.1 hP9.2 hS9 rfl hf9 hd⟩ | exact ⟨1, rfl, Or.inl ⟨rfl, hn1, rfl⟩⟩ | exact ⟨2, rfl, Or.inr (Or.inl ⟨rfl, ho1, hn2, rfl⟩)⟩) dL_parted_21 (Nat.le_of_ble_eq_true rfl) (Nat.le_of_ble_eq_true rfl)
  obtain ⟨⟨rfl, e9⟩, hP9⟩ := hR
  refine x_ew e9 ?_
  have hS9 := hS
  have hf9 : fr (kP K) w w := fr.rf
  have ho9 := ho
  simp only [Option.toList_some, Option.toList_none, List.cons_append, List.nil_append]
  refine x_i2l Z dL_parted_7 ?_
  refine x_putfN (ci := 4) (j := 0) (C := RX3) (T := TX3) (N := 2) (fs' := [_, _]) Z tyX3 tyX3_ok nmX3 inX3g rfl (by decide) q297 rfl rfl rfl rfl rfl dL_parted_8 (by assumption) (by exact Nat.le_of_ble_eq_true rfl) rfl ?_
  refine x_goto Z 22 dL_parted_11 (by decide) ?_
  refine x_iconst Z dL_parted_22 ?_
  exact x_iret Z E (by first | exact ⟨0, rfl, dT.of hP9.1 hP9.2 hS9 rfl hf9 hd⟩ | exact ⟨1, rfl, Or.inl ⟨rfl, hn1, rfl⟩⟩ | exact ⟨2, rfl, Or.inr (Or.inl ⟨rfl, ho1, hn2, rfl⟩)⟩) dL_parted_23 (Nat.le_of_ble_eq_true rfl) (Nat.le_of_ble_eq_true rfl)
abbrev rmc_L_piece : Room := { frames := 8, cells := 3, slots := 18, locals := 181 }
set_option maxRecDepth 100000 in
theorem c_L_piece {l : Launch} {s0 : State} {G : gK} {w : wd} (h0 : gS0 s0) (htr : l.stackTraces = false) {K : kA} {M : kM} {t : Int} {k1 : Int} {m : Int} {oc : Nat} {yo : Int64} {sv : Value} (hS : kS G w K M) (ht : inr t) (hk1 : inr k1) (hm : inr m) (ho : w oc = some (eO 4 [.long yo, sv])) (hd : ¬ kP K oc) : gM l s0 G yL_piece [Cond.codeWith yL_piece cL_piece 6 (some .int) [(0, 13, 16, 19), (0, 13, 20, 21)]] rmc_L_piece [rv K.1, iv t, iv k1, iv m, rv oc] w (fun v w' => ∃ z : Int, v = some (iv z) ∧ dT G w K M oc ((0 ≤ t ∧ t < 3) ∧ 0 ≤ k1 ∧ 0 ≤ (pbg (M.1 t) (M.2.1 t) k1)) (0 ≤ m ∧ m ≤ 2) (fun y => y = (zI (if m = 0 then (pbg (M.1 t) (M.2.1 t) k1) else if m = 1 then (lon (M.1 t) (M.2.1 t) (pbg (M.1 t) (M.2.1 t) k1)) else sb (M.2.1 t (pbg (M.1 t) (M.2.1 t) k1)))).toInt64) sv z w') (noX) := by
  refine g_ofH h0 htr (by decide +kernel) (Nat.le_of_ble_eq_true rfl) ?_
  intro b Z0 E
  have Z : gAm b l s0 G cL_piece RL 6 rmc_L_piece := Z0
  refine x_el (L' := [(0, rv K.1), (1, iv t), (2, iv k1), (3, iv m), (4, rv oc)]) rfl ?_
  refine x_aload Z dL_piece_0 rfl ?_
  refine x_aload_n Z dL_piece_2 rfl rfl ?_
  refine x_iload_n Z dL_piece_3 rfl rfl ?_
  refine x_iload_n Z dL_piece_4 rfl rfl ?_
  refine x_iload_n Z dL_piece_5 rfl rfl ?_
  refine x_callVx (ci := 3) (C := RX2) (T := TX2) (N := 4) Z okX2_piece q968 q969 q970 rfl dL_piece_6 (c_X2_piece h0 htr hS (by assumption) (by assumption) (by assumption)) hS.1 ⟨Nat.le_of_ble_eq_true rfl, Nat.le_of_ble_eq_true rfl, Nat.le_of_ble_eq_true rfl, Nat.le_of_ble_eq_true rfl⟩ rfl rfl (Nat.le_of_ble_eq_true rfl) (fun X w9 hX => ?_) (fun v9 w9 hR => ?_)
  ·
    rcases hX with ⟨⟨rfl, hn1⟩ | ⟨rfl, ho1, hn2⟩, e9⟩ <;> rw [e9]
    refine x_ct2 Z E q307 q319 rfl (by decide) (fun q9 => ?_)
    refine x_astore (L' := [(5, _), (0, _), (1, _), (2, _), (3, _), (4, _)]) Z dL_piece_16 (Nat.le_of_ble_eq_true rfl) rfl ?_
    refine x_iconst Z dL_piece_18 ?_
    exact x_iret Z E (by first | exact ⟨0, rfl, dT.of hP9.1 hP9.2 hS9 rfl hf9 hd⟩ | exact ⟨1, rfl, Or.inl ⟨rfl, hn1, rfl⟩⟩ | exact ⟨2, rfl, Or.inr (Or.inl ⟨rfl, ho1, hn2, rfl⟩)⟩) dL_piece_19 (Nat.le_of_ble_eq_true rfl) (Nat.le_of_ble_eq_true rfl)
    refine x_ct3 Z E q307 (by decide) q308 q228 rfl (by decide) (fun q9 => ?_)
    refine x_astore (L' := [(5, _), (0, _), (1, _), (2, _), (3, _), (4, _)]) Z dL_piece_20 (Nat.le_of_ble_eq_true rfl) rfl ?_
    refine x_iconst Z dL_piece_22 ?_
    exact x_iret Z E (by first | exact ⟨0, rfl, dT.of hP9.1 hP9.2 hS9 rfl hf9 hd⟩ | exact ⟨1, rfl, Or.inl ⟨rfl, hn1, rfl⟩⟩ | exact ⟨2, rfl, Or.inr (Or.inl ⟨rfl, ho1, hn2, rfl⟩)⟩) dL_piece_23 (Nat.le_of_ble_eq_true rfl) (Nat.le_of_ble_eq_true rfl)
  obtain ⟨⟨rfl, e9⟩, hP9⟩ := hR
  refine x_ew e9 ?_
  have hS9 := hS
  have hf9 : fr (kP K) w w := fr.rf
  have ho9 := ho
  simp only [Option.toList_some, Option.toList_none, List.cons_append, List.nil_append]
  refine x_i2l Z dL_piece_9 ?_
  refine x_putfN (ci := 4) (j := 0) (C := RX3) (T := TX3) (N := 2) (fs' := [_, _]) Z tyX3 tyX3_ok nmX3 inX3g rfl (by decide) q297 rfl rfl rfl rfl rfl dL_piece_10 (by assumption) (by exact Nat.le_of_ble_eq_true rfl) rfl ?_
  refine x_goto Z 24 dL_piece_13 (by decide) ?_
  refine x_iconst Z dL_piece_24 ?_
  exact x_iret Z E (by first | exact ⟨0, rfl, dT.of hP9.1 hP9.2 hS9 rfl hf9 hd⟩ | exact ⟨1, rfl, Or.inl ⟨rfl, hn1, rfl⟩⟩ | exact ⟨2, rfl, Or.inr (Or.inl ⟨rfl, ho1, hn2, rfl⟩)⟩) dL_piece_25 (Nat.le_of_ble_eq_true rfl) (Nat.le_of_ble_eq_true rfl)
abbrev rmc_L_pieces : Room := { frames := 8, cells := 1, slots := 6, locals := 142 }
set_option maxRecDepth 100000 in
theorem c_L_pieces {l : Launch} {s0 : State} {G : gK} {w : wd} (h0 : gS0 s0) (htr : l.stackTraces = false) {K : kA} {M : kM} {t : Int} {oc : Nat} {yo : Int64} {sv : Value} (hS : kS G w K M) (ht : inr t) (ho : w oc = some (eO 4 [.long yo, sv])) (hd : ¬ kP K oc) : gM l s0 G yL_pieces [Cond.codeWith yL_pieces cL_pieces 4 (some .int) [(0, 10, 13, 19)]] rmc_L_pieces [rv K.1, iv t, rv oc] w (fun v w' => ∃ z : Int, v = some (iv z) ∧ dT G w K M oc (0 ≤ t ∧ t < 3) (True) (fun y => y = (zI (bcn (beg (M.1 t) (M.2.1 t)))).toInt64) sv z w') (noX) := by
  refine g_ofH h0 htr (by decide +kernel) (Nat.le_of_ble_eq_true rfl) ?_
  intro b Z0 E
  have Z : gAm b l s0 G cL_pieces RL 4 rmc_L_pieces := Z0
  refine x_el (L' := [(0, rv K.1), (1, iv t), (2, rv oc)]) rfl ?_
  refine x_aload_n Z dL_pieces_0 rfl rfl ?_
  refine x_aload_n Z dL_pieces_1 rfl rfl ?_
  refine x_iload_n Z dL_pieces_2 rfl rfl ?_
  refine x_callVx (ci := 3) (C := RX2) (T := TX2) (N := 4) Z okX2_pieces q960 q961 q962 rfl dL_pieces_3 (c_X2_pieces h0 htr hS (by assumption)) hS.1 ⟨Nat.le_of_ble_eq_true rfl, Nat.le_of_ble_eq_true rfl, Nat.le_of_ble_eq_true rfl, Nat.le_of_ble_eq_true rfl⟩ rfl rfl (Nat.le_of_ble_eq_true rfl) (fun X w9 hX => ?_) (fun v9 w9 hR => ?_)
  ·
    obtain ⟨rfl, e9, hn1⟩ := hX
    rw [e9]
    refine x_ct1 Z E q307 q319 rfl (by decide) (fun q9 => ?_)
    refine x_astore_n (L' := [(3, _), (0, _), (1, _), (2, _)]) Z dL_pieces_13 rfl (Nat.le_of_ble_eq_true rfl) rfl ?_
    refine x_iconst Z dL_pieces_14 ?_
    exact x_iret Z E (by first | exact ⟨0, rfl, dT.of hP9 trivial hS9 rfl hf9 hd⟩ | exact ⟨1, rfl, Or.inl ⟨rfl, hn1, rfl⟩⟩ | exact ⟨2, rfl, Or.inr (Or.inl ⟨rfl, ho1, hn2, rfl⟩)⟩) dL_pieces_15 (Nat.le_of_ble_eq_true rfl) (Nat.le_of_ble_eq_true rfl)
  obtain ⟨⟨rfl, e9⟩, hP9⟩ := hR
  refine x_ew e9 ?_
  have hS9 := hS
  have hf9 : fr (kP K) w w := fr.rf
  have ho9 := ho
  simp only [Option.toList_some, Option.toList_none, List.cons_append, List.nil_append]
  refine x_i2l Z dL_pieces_6 ?_
  refine x_putfN (ci := 4) (j := 0) (C := RX3) (T := TX3) (N := 2) (fs' := [_, _]) Z tyX3 tyX3_ok nmX3 inX3g rfl (by decide) q297 rfl rfl rfl rfl rfl dL_pieces_7 (by assumption) (by exact Nat.le_of_ble_eq_true rfl) rfl ?_
  refine x_goto Z 16 dL_pieces_10 (by decide) ?_
  refine x_iconst Z dL_pieces_16 ?_
  exact x_iret Z E (by first | exact ⟨0, rfl, dT.of hP9 trivial hS9 rfl hf9 hd⟩ | exact ⟨1, rfl, Or.inl ⟨rfl, hn1, rfl⟩⟩ | exact ⟨2, rfl, Or.inr (Or.inl ⟨rfl, ho1, hn2, rfl⟩)⟩) dL_pieces_17 (Nat.le_of_ble_eq_true rfl) (Nat.le_of_ble_eq_true rfl)
abbrev rmc_L_put : Room := { frames := 8, cells := 3, slots := 18, locals := 146 }
set_option maxRecDepth 100000 in
theorem c_L_put {l : Launch} {s0 : State} {G : gK} {w : wd} (h0 : gS0 s0) (htr : l.stackTraces = false) {K : kA} {M : kM} {t : Int} {p : Int} {s : Int} {oc : Nat} {yo : Int64} {sv : Value} (hS : kS G w K M) (ht : inr t) (hp : inr p) (hs : inr s) (ho : w oc = some (eO 4 [.long yo, sv])) (hd : ¬ kP K oc) : gM l s0 G yL_put [Cond.codeWith yL_put cL_put 6 (some .int) [(0, 13, 16, 19), (0, 13, 20, 21)]] rmc_L_put [rv K.1, iv t, iv p, iv s, rv oc] w (fun v w' => ∃ z : Int, v = some (iv z) ∧ dA G w K M oc ((0 ≤ t ∧ t < 3) ∧ 0 ≤ p ∧ p < M.1 t) (0 ≤ s ∧ s < 256) (acPut M.1 M.2.1 t p s) sv z w') (noX) := by
  refine g_ofH h0 htr (by decide +kernel) (Nat.le_of_ble_eq_true rfl) ?_
  intro b Z0 E
  have Z : gAm b l s0 G cL_put RL 6 rmc_L_put := Z0
  refine x_el (L' := [(0, rv K.1), (1, iv t), (2, iv p), (3, iv s), (4, rv oc)]) rfl ?_
  refine x_aload Z dL_put_0 rfl ?_
  refine x_aload_n Z dL_put_2 rfl rfl ?_
  refine x_iload_n Z dL_put_3 rfl rfl ?_
  refine x_iload_n Z dL_put_4 rfl rfl ?_
  refine x_iload_n Z dL_put_5 rfl rfl ?_
  refine x_callVx (ci := 3) (C := RX2) (T := TX2) (N := 4) Z okX2_put q358 q359 q360 rfl dL_put_6 (c_X2_put h0 htr hS (by assumption) (by assumption) (by assumption)) hS.1 ⟨Nat.le_of_ble_eq_true rfl, Nat.le_of_ble_eq_true rfl, Nat.le_of_ble_eq_true rfl, Nat.le_of_ble_eq_true rfl⟩ rfl rfl (Nat.le_of_ble_eq_true rfl) (fun X w9 hX => ?_) (fun v9 w9 hR => ?_)
  ·
    rcases hX with ⟨⟨rfl, hn1⟩ | ⟨rfl, ho1, hn2⟩, e9⟩ <;> rw [e9]
    refine x_ct2 Z E q307 q319 rfl (by decide) (fun q9 => ?_)
    refine x_astore (L' := [(5, _), (0, _), (1, _), (2, _), (3, _), (4, _)]) Z dL_put_16 (Nat.le_of_ble_eq_true rfl) rfl ?_
    refine x_iconst Z dL_put_18 ?_
    exact x_iret Z E (by first | exact ⟨0, rfl, dA.of hP9.1 hP9.2 hS9 hd9 hf9 hd⟩ | exact ⟨1, rfl, Or.inl ⟨rfl, hn1, rfl⟩⟩ | exact ⟨2, rfl, Or.inr (Or.inl ⟨rfl, ho1, hn2, rfl⟩)⟩) dL_put_19 (Nat.le_of_ble_eq_true rfl) (Nat.le_of_ble_eq_true rfl)
    refine x_ct3 Z E q307 (by decide) q308 q228 rfl (by decide) (fun q9 => ?_)
    refine x_astore (L' := [(5, _), (0, _), (1, _), (2, _), (3, _), (4, _)]) Z dL_put_20 (Nat.le_of_ble_eq_true rfl) rfl ?_
    refine x_iconst Z dL_put_22 ?_
    exact x_iret Z E (by first | exact ⟨0, rfl, dA.of hP9.1 hP9.2 hS9 hd9 hf9 hd⟩ | exact ⟨1, rfl, Or.inl ⟨rfl, hn1, rfl⟩⟩ | exact ⟨2, rfl, Or.inr (Or.inl ⟨rfl, ho1, hn2, rfl⟩)⟩) dL_put_23 (Nat.le_of_ble_eq_true rfl) (Nat.le_of_ble_eq_true rfl)
  obtain ⟨⟨z, rfl, M9, hS9, hd9, hf9⟩, hP9⟩ := hR
  have ho9 := hf9.at hd ho
  simp only [Option.toList_some, Option.toList_none, List.cons_append, List.nil_append]
  refine x_i2l Z dL_put_9 ?_
  refine x_putfN (ci := 4) (j := 0) (C := RX3) (T := TX3) (N := 2) (fs' := [_, _]) Z tyX3 tyX3_ok nmX3 inX3g rfl (by decide) q297 rfl rfl rfl rfl rfl dL_put_10 (by assumption) (by exact Nat.le_of_ble_eq_true rfl) rfl ?_
  refine x_goto Z 24 dL_put_13 (by decide) ?_
  refine x_iconst Z dL_put_24 ?_
  exact x_iret Z E (by first | exact ⟨0, rfl, dA.of hP9.1 hP9.2 hS9 hd9 hf9 hd⟩ | exact ⟨1, rfl, Or.inl ⟨rfl, hn1, rfl⟩⟩ | exact ⟨2, rfl, Or.inr (Or.inl ⟨rfl, ho1, hn2, rfl⟩)⟩) dL_put_25 (Nat.le_of_ble_eq_true rfl) (Nat.le_of_ble_eq_true rfl)
abbrev rmc_L_run : Room := { frames := 8, cells := 2, slots := 12, locals := 144 }
set_option maxRecDepth 100000 in
theorem c_L_run {l : Launch} {s0 : State} {G : gK} {w : wd} (h0 : gS0 s0) (htr : l.stackTraces = false) {K : kA} {M : kM} {q : Int} {f : Int} {oc : Nat} {yo : Int64} {sv : Value} (hS : kS G w K M) (hq : inr q) (hf : inr f) (ho : w oc = some (eO 4 [.long yo, sv])) (hd : ¬ kP K oc) : gM l s0 G yL_run [Cond.codeWith yL_run cL_run 5 (some .int) [(0, 11, 14, 21)]] rmc_L_run [rv K.1, iv q, iv f, rv oc] w (fun v w' => ∃ z : Int, v = some (iv z) ∧ dQ w oc z (((0 ≤ q ∧ q < 14)) ∧ 0 ≤ f ∧ f < 256) ((zI (findI (fun c => so c q != so f q) f 256 - f)).toInt64) sv w') (noX) := by
  refine g_ofH h0 htr (by decide +kernel) (Nat.le_of_ble_eq_true rfl) ?_
  intro b Z0 E
  have Z : gAm b l s0 G cL_run RL 5 rmc_L_run := Z0
  refine x_el (L' := [(0, rv K.1), (1, iv q), (2, iv f), (3, rv oc)]) rfl ?_
  refine x_aload_n Z dL_run_0 rfl rfl ?_
  refine x_aload_n Z dL_run_1 rfl rfl ?_
  refine x_iload_n Z dL_run_2 rfl rfl ?_
  refine x_iload_n Z dL_run_3 rfl rfl ?_
  refine x_callVx (ci := 3) (C := RX2) (T := TX2) (N := 4) Z okX2_run q533 q534 q535 rfl dL_run_4 (c_X2_run h0 htr hS (by assumption) (by assumption)) hS.1 ⟨Nat.le_of_ble_eq_true rfl, Nat.le_of_ble_eq_true rfl, Nat.le_of_ble_eq_true rfl, Nat.le_of_ble_eq_true rfl⟩ rfl rfl (Nat.le_of_ble_eq_true rfl) (fun X w9 hX => ?_) (fun v9 w9 hR => ?_)
  ·
    obtain ⟨rfl, e9, hnP⟩ := hX
    rw [e9]
    refine x_ct1 Z E q308 q228 rfl (by decide) (fun q9 => ?_)
    refine x_astore (L' := [(4, _), (0, _), (1, _), (2, _), (3, _)]) Z dL_run_14 (Nat.le_of_ble_eq_true rfl) rfl ?_
    refine x_iconst Z dL_run_16 ?_
    exact x_iret Z E (by first | exact ⟨0, rfl, Or.inr ⟨rfl, hP9, rfl⟩⟩ | exact ⟨1, rfl, Or.inl ⟨rfl, hnP, rfl⟩⟩) dL_run_17 (Nat.le_of_ble_eq_true rfl) (Nat.le_of_ble_eq_true rfl)
  obtain ⟨⟨rfl, e9⟩, hP9⟩ := hR
  refine x_ew e9 ?_
  have hS9 := hS
  have hf9 : fr (kP K) w w := fr.rf
  have ho9 := ho
  simp only [Option.toList_some, Option.toList_none, List.cons_append, List.nil_append]
  refine x_i2l Z dL_run_7 ?_
  refine x_putfN (ci := 4) (j := 0) (C := RX3) (T := TX3) (N := 2) (fs' := [_, _]) Z tyX3 tyX3_ok nmX3 inX3g rfl (by decide) q297 rfl rfl rfl rfl rfl dL_run_8 (by assumption) (by exact Nat.le_of_ble_eq_true rfl) rfl ?_
  refine x_goto Z 18 dL_run_11 (by decide) ?_
  refine x_iconst Z dL_run_18 ?_
  exact x_iret Z E (by first | exact ⟨0, rfl, Or.inr ⟨rfl, hP9, rfl⟩⟩ | exact ⟨1, rfl, Or.inl ⟨rfl, hnP, rfl⟩⟩) dL_run_19 (Nat.le_of_ble_eq_true rfl) (Nat.le_of_ble_eq_true rfl)
abbrev rmc_L_sign : Room := { frames := 8, cells := 2, slots := 12, locals := 144 }
set_option maxRecDepth 100000 in
theorem c_L_sign {l : Launch} {s0 : State} {G : gK} {w : wd} (h0 : gS0 s0) (htr : l.stackTraces = false) {K : kA} {M : kM} {t : Int} {p : Int} {oc : Nat} {yo : Int64} {sv : Value} (hS : kS G w K M) (ht : inr t) (hp : inr p) (ho : w oc = some (eO 4 [.long yo, sv])) (hd : ¬ kP K oc) : gM l s0 G yL_sign [Cond.codeWith yL_sign cL_sign 5 (some .int) [(0, 11, 14, 19)]] rmc_L_sign [rv K.1, iv t, iv p, rv oc] w (fun v w' => ∃ z : Int, v = some (iv z) ∧ dT G w K M oc ((0 ≤ t ∧ t < 3) ∧ 0 ≤ p ∧ p < M.1 t) (True) (fun y => y = (zI (M.2.1 t p)).toInt64) sv z w') (noX) := by
  refine g_ofH h0 htr (by decide +kernel) (Nat.le_of_ble_eq_true rfl) ?_
  intro b Z0 E
  have Z : gAm b l s0 G cL_sign RL 5 rmc_L_sign := Z0
  refine x_el (L' := [(0, rv K.1), (1, iv t), (2, iv p), (3, rv oc)]) rfl ?_
  refine x_aload_n Z dL_sign_0 rfl rfl ?_
  refine x_aload_n Z dL_sign_1 rfl rfl ?_
  refine x_iload_n Z dL_sign_2 rfl rfl ?_
  refine x_iload_n Z dL_sign_3 rfl rfl ?_
  refine x_callVx (ci := 3) (C := RX2) (T := TX2) (N := 4) Z okX2_sign q592 q593 q594 rfl dL_sign_4 (c_X2_sign h0 htr hS (by assumption) (by assumption)) hS.1 ⟨Nat.le_of_ble_eq_true rfl, Nat.le_of_ble_eq_true rfl, Nat.le_of_ble_eq_true rfl, Nat.le_of_ble_eq_true rfl⟩ rfl rfl (Nat.le_of_ble_eq_true rfl) (fun X w9 hX => ?_) (fun v9 w9 hR => ?_)
  ·
    obtain ⟨rfl, e9, hn1⟩ := hX
    rw [e9]
    refine x_ct1 Z E q307 q319 rfl (by decide) (fun q9 => ?_)
    refine x_astore (L' := [(4, _), (0, _), (1, _), (2, _), (3, _)]) Z dL_sign_14 (Nat.le_of_ble_eq_true rfl) rfl ?_
    refine x_iconst Z dL_sign_16 ?_
    exact x_iret Z E (by first | exact ⟨0, rfl, dT.of hP9 trivial hS9 rfl hf9 hd⟩ | exact ⟨1, rfl, Or.inl ⟨rfl, hn1, rfl⟩⟩ | exact ⟨2, rfl, Or.inr (Or.inl ⟨rfl, ho1, hn2, rfl⟩)⟩) dL_sign_17 (Nat.le_of_ble_eq_true rfl) (Nat.le_of_ble_eq_true rfl)
  obtain ⟨⟨rfl, e9⟩, hP9⟩ := hR
  refine x_ew e9 ?_
  have hS9 := hS
  have hf9 : fr (kP K) w w := fr.rf
  have ho9 := ho
  simp only [Option.toList_some, Option.toList_none, List.cons_append, List.nil_append]
  refine x_i2l Z dL_sign_7 ?_
  refine x_putfN (ci := 4) (j := 0) (C := RX3) (T := TX3) (N := 2) (fs' := [_, _]) Z tyX3 tyX3_ok nmX3 inX3g rfl (by decide) q297 rfl rfl rfl rfl rfl dL_sign_8 (by assumption) (by exact Nat.le_of_ble_eq_true rfl) rfl ?_
  refine x_goto Z 18 dL_sign_11 (by decide) ?_
  refine x_iconst Z dL_sign_18 ?_
  exact x_iret Z E (by first | exact ⟨0, rfl, dT.of hP9 trivial hS9 rfl hf9 hd⟩ | exact ⟨1, rfl, Or.inl ⟨rfl, hn1, rfl⟩⟩ | exact ⟨2, rfl, Or.inr (Or.inl ⟨rfl, ho1, hn2, rfl⟩)⟩) dL_sign_19 (Nat.le_of_ble_eq_true rfl) (Nat.le_of_ble_eq_true rfl)
abbrev rmc_L_signs : Room := { frames := 12, cells := 126, slots := 16496, locals := 236 }
set_option maxRecDepth 100000 in
theorem c_L_signs {l : Launch} {s0 : State} {G : gK} {w : wd} (h0 : gS0 s0) (htr : l.stackTraces = false) {K : kA} {M : kM} {t : Int} {oc : Nat} {yo : Int64} {sv : Value} (hS : kS G w K M) (ht : inr t) (ho : w oc = some (eO 4 [.long yo, sv])) (hd : ¬ kP K oc) : gM l s0 G yL_signs [Cond.codeWith yL_signs cL_signs 4 (some .int) [(0, 9, 12, 19)]] rmc_L_signs [rv K.1, iv t, rv oc] w (fun v w' => (∃ z : Int, v = some (iv z)) ∧ dV G w K M oc w') (noX) := by
  refine g_ofH h0 htr (by decide +kernel) (Nat.le_of_ble_eq_true rfl) ?_
  intro b Z0 E
  have Z : gAm b l s0 G cL_signs RL 4 rmc_L_signs := Z0
  refine x_el (L' := [(0, rv K.1), (1, iv t), (2, rv oc)]) rfl ?_
  refine x_aload_n Z dL_signs_0 rfl rfl ?_
  refine x_aload_n Z dL_signs_1 rfl rfl ?_
  refine x_iload_n Z dL_signs_2 rfl rfl ?_
  refine x_callVx (ci := 3) (C := RX2) (T := TX2) (N := 4) Z okX2_signs q599 q600 q601 rfl dL_signs_3 (c_X2_signs h0 htr hS (by assumption)) hS.1 ⟨Nat.le_of_ble_eq_true rfl, Nat.le_of_ble_eq_true rfl, Nat.le_of_ble_eq_true rfl, Nat.le_of_ble_eq_true rfl⟩ rfl rfl (Nat.le_of_ble_eq_true rfl) (fun X w9 hX => ?_) (fun v9 w9 hR => ?_)
  ·
    obtain ⟨rfl, e9⟩ := hX
    rw [e9]
    refine x_ct1 Z E q307 q319 rfl (by decide) (fun q9 => ?_)
    refine x_astore_n (L' := [(3, _), (0, _), (1, _), (2, _)]) Z dL_signs_12 rfl (Nat.le_of_ble_eq_true rfl) rfl ?_
    refine x_iconst Z dL_signs_13 ?_
    exact x_iret Z E (by first | exact ⟨⟨_, rfl⟩, dV.of hS9 hf9 hd⟩ | exact ⟨⟨_, rfl⟩, dV.rf hS ho⟩) dL_signs_14 (Nat.le_of_ble_eq_true rfl) (Nat.le_of_ble_eq_true rfl)
  obtain ⟨⟨q9, rfl⟩, e9⟩ := hR
  refine x_ew e9 ?_
  have hS9 := hS
  have hf9 : fr (kP K) w w := fr.rf
  have ho9 := ho
  simp only [Option.toList_some, Option.toList_none, List.cons_append, List.nil_append]
  refine x_putfN (ci := 4) (j := 1) (C := RX3) (T := TX3) (N := 2) (fs' := [_, _]) Z tyX3 tyX3_ok nmX3 inX3g rfl (by decide) q298 rfl rfl rfl rfl rfl dL_signs_6 (by assumption) (by exact Nat.le_of_ble_eq_true rfl) rfl ?_
  refine x_goto Z 15 dL_signs_9 (by decide) ?_
  refine x_iconst Z dL_signs_15 ?_
  exact x_iret Z E (by first | exact ⟨⟨_, rfl⟩, dV.of hS9 hf9 hd⟩ | exact ⟨⟨_, rfl⟩, dV.rf hS ho⟩) dL_signs_16 (Nat.le_of_ble_eq_true rfl) (Nat.le_of_ble_eq_true rfl)
abbrev rmc_L_sort : Room := { frames := 8, cells := 2, slots := 12, locals := 145 }
set_option maxRecDepth 100000 in
theorem c_L_sort {l : Launch} {s0 : State} {G : gK} {w : wd} (h0 : gS0 s0) (htr : l.stackTraces = false) {K : kA} {M : kM} {t : Int} {f : Int} {g : Int} {oc : Nat} {yo : Int64} {sv : Value} (hS : kS G w K M) (ht : inr t) (hf : inr f) (hg : inr g) (ho : w oc = some (eO 4 [.long yo, sv])) (hd : ¬ kP K oc) : gM l s0 G yL_sort [Cond.codeWith yL_sort cL_sort 6 (some .int) [(0, 13, 16, 19)]] rmc_L_sort [rv K.1, iv t, iv f, iv g, rv oc] w (fun v w' => ∃ z : Int, v = some (iv z) ∧ dT G w K M oc ((0 ≤ t ∧ t < 3) ∧ 0 ≤ f ∧ f < g ∧ g ≤ M.1 t) (True) (fun y => y = (zI (if g - f ≤ lon (M.1 t) (M.2.1 t) f then sb (M.2.1 t f) else -1)).toInt64) sv z w') (noX) := by
  refine g_ofH h0 htr (by decide +kernel) (Nat.le_of_ble_eq_true rfl) ?_
  intro b Z0 E
  have Z : gAm b l s0 G cL_sort RL 6 rmc_L_sort := Z0
  refine x_el (L' := [(0, rv K.1), (1, iv t), (2, iv f), (3, iv g), (4, rv oc)]) rfl ?_
  refine x_aload Z dL_sort_0 rfl ?_
  refine x_aload_n Z dL_sort_2 rfl rfl ?_
  refine x_iload_n Z dL_sort_3 rfl rfl ?_
  refine x_iload_n Z dL_sort_4 rfl rfl ?_
  refine x_iload_n Z dL_sort_5 rfl rfl ?_
  refine x_callVx (ci := 3) (C := RX2) (T := TX2) (N := 4) Z okX2_sort q942 q943 q944 rfl dL_sort_6 (c_X2_sort h0 htr hS (by assumption) (by assumption) (by assumption)) hS.1 ⟨Nat.le_of_ble_eq_true rfl, Nat.le_of_ble_eq_true rfl, Nat.le_of_ble_eq_true rfl, Nat.le_of_ble_eq_true rfl⟩ rfl rfl (Nat.le_of_ble_eq_true rfl) (fun X w9 hX => ?_) (fun v9 w9 hR => ?_)
  ·
    obtain ⟨rfl, e9, hn1⟩ := hX
    rw [e9]
    refine x_ct1 Z E q307 q319 rfl (by decide) (fun q9 => ?_)
    refine x_astore (L' := [(5, _), (0, _), (1, _), (2, _), (3, _), (4, _)]) Z dL_sort_16 (Nat.le_of_ble_eq_true rfl) rfl ?_
    refine x_iconst Z dL_sort_18 ?_
    exact x_iret Z E (by first | exact ⟨0, rfl, dT.of hP9 trivial hS9 rfl hf9 hd⟩ | exact ⟨1, rfl, Or.inl ⟨rfl, hn1, rfl⟩⟩ | exact ⟨2, rfl, Or.inr (Or.inl ⟨rfl, ho1, hn2, rfl⟩)⟩) dL_sort_19 (Nat.le_of_ble_eq_true rfl) (Nat.le_of_ble_eq_true rfl)
  obtain ⟨⟨rfl, e9⟩, hP9⟩ := hR
  refine x_ew e9 ?_
  have hS9 := hS
  have hf9 : fr (kP K) w w := fr.rf
  have ho9 := ho
  simp only [Option.toList_some, Option.toList_none, List.cons_append, List.nil_append]
  refine x_i2l Z dL_sort_9 ?_
  refine x_putfN (ci := 4) (j := 0) (C := RX3) (T := TX3) (N := 2) (fs' := [_, _]) Z tyX3 tyX3_ok nmX3 inX3g rfl (by decide) q297 rfl rfl rfl rfl rfl dL_sort_10 (by assumption) (by exact Nat.le_of_ble_eq_true rfl) rfl ?_
  refine x_goto Z 20 dL_sort_13 (by decide) ?_
  refine x_iconst Z dL_sort_20 ?_
  exact x_iret Z E (by first | exact ⟨0, rfl, dT.of hP9 trivial hS9 rfl hf9 hd⟩ | exact ⟨1, rfl, Or.inl ⟨rfl, hn1, rfl⟩⟩ | exact ⟨2, rfl, Or.inr (Or.inl ⟨rfl, ho1, hn2, rfl⟩)⟩) dL_sort_21 (Nat.le_of_ble_eq_true rfl) (Nat.le_of_ble_eq_true rfl)
abbrev rmc_L_sorts : Room := { frames := 12, cells := 126, slots := 16496, locals := 237 }
set_option maxRecDepth 100000 in
theorem c_L_sorts {l : Launch} {s0 : State} {G : gK} {w : wd} (h0 : gS0 s0) (htr : l.stackTraces = false) {K : kA} {M : kM} {t : Int} {oc : Nat} {yo : Int64} {sv : Value} (hS : kS G w K M) (ht : inr t) (ho : w oc = some (eO 4 [.long yo, sv])) (hd : ¬ kP K oc) : gM l s0 G yL_sorts [Cond.codeWith yL_sorts cL_sorts 4 (some .int) [(0, 9, 12, 19)]] rmc_L_sorts [rv K.1, iv t, rv oc] w (fun v w' => (∃ z : Int, v = some (iv z)) ∧ dV G w K M oc w') (noX) := by
  refine g_ofH h0 htr (by decide +kernel) (Nat.le_of_ble_eq_true rfl) ?_
  intro b Z0 E
  have Z : gAm b l s0 G cL_sorts RL 4 rmc_L_sorts := Z0
  refine x_el (L' := [(0, rv K.1), (1, iv t), (2, rv oc)]) rfl ?_
  refine x_aload_n Z dL_sorts_0 rfl rfl ?_
  refine x_aload_n Z dL_sorts_1 rfl rfl ?_
  refine x_iload_n Z dL_sorts_2 rfl rfl ?_
  refine x_callVx (ci := 3) (C := RX2) (T := TX2) (N := 4) Z okX2_sorts q976 q977 q978 rfl dL_sorts_3 (c_X2_sorts h0 htr hS (by assumption)) hS.1 ⟨Nat.le_of_ble_eq_true rfl, Nat.le_of_ble_eq_true rfl, Nat.le_of_ble_eq_true rfl, Nat.le_of_ble_eq_true rfl⟩ rfl rfl (Nat.le_of_ble_eq_true rfl) (fun X w9 hX => ?_) (fun v9 w9 hR => ?_)
  ·
    obtain ⟨rfl, e9⟩ := hX
    rw [e9]
    refine x_ct1 Z E q307 q319 rfl (by decide) (fun q9 => ?_)
    refine x_astore_n (L' := [(3, _), (0, _), (1, _), (2, _)]) Z dL_sorts_12 rfl (Nat.le_of_ble_eq_true rfl) rfl ?_
    refine x_iconst Z dL_sorts_13 ?_
    exact x_iret Z E (by first | exact ⟨⟨_, rfl⟩, dV.of hS9 hf9 hd⟩ | exact ⟨⟨_, rfl⟩, dV.rf hS ho⟩) dL_sorts_14 (Nat.le_of_ble_eq_true rfl) (Nat.le_of_ble_eq_true rfl)
  obtain ⟨⟨q9, rfl⟩, e9⟩ := hR
  refine x_ew e9 ?_
  have hS9 := hS
  have hf9 : fr (kP K) w w := fr.rf
  have ho9 := ho
  simp only [Option.toList_some, Option.toList_none, List.cons_append, List.nil_append]
  refine x_putfN (ci := 4) (j := 1) (C := RX3) (T := TX3) (N := 2) (fs' := [_, _]) Z tyX3 tyX3_ok nmX3 inX3g rfl (by decide) q298 rfl rfl rfl rfl rfl dL_sorts_6 (by assumption) (by exact Nat.le_of_ble_eq_true rfl) rfl ?_
  refine x_goto Z 15 dL_sorts_9 (by decide) ?_
  refine x_iconst Z dL_sorts_15 ?_
  exact x_iret Z E (by first | exact ⟨⟨_, rfl⟩, dV.of hS9 hf9 hd⟩ | exact ⟨⟨_, rfl⟩, dV.rf hS ho⟩) dL_sorts_16 (Nat.le_of_ble_eq_true rfl) (Nat.le_of_ble_eq_true rfl)
abbrev rmc_L_take : Room := { frames := 8, cells := 3, slots := 18, locals := 182 }
set_option maxRecDepth 100000 in
theorem c_L_take {l : Launch} {s0 : State} {G : gK} {w : wd} (h0 : gS0 s0) (htr : l.stackTraces = false) {K : kA} {M : kM} {t : Int} {k1 : Int} {u : Int} {oc : Nat} {yo : Int64} {sv : Value} (hS : kS G w K M) (ht : inr t) (hk1 : inr k1) (hu : inr u) (ho : w oc = some (eO 4 [.long yo, sv])) (hd : ¬ kP K oc) : gM l s0 G yL_take [Cond.codeWith yL_take cL_take 6 (some .int) [(0, 13, 16, 19)]] rmc_L_take [rv K.1, iv t, iv k1, iv u, rv oc] w (fun v w' => ∃ z : Int, v = some (iv z) ∧ dA G w K M oc (((0 ≤ t ∧ t < 3) ∧ 0 ≤ u ∧ u < 3) ∧ 0 ≤ k1 ∧ 0 ≤ (pbg (M.1 t) (M.2.1 t) k1)) (True) (acTake M.1 M.2.1 t k1 u) sv z w') (noX) := by
  refine g_ofH h0 htr (by decide +kernel) (Nat.le_of_ble_eq_true rfl) ?_
  intro b Z0 E
  have Z : gAm b l s0 G cL_take RL 6 rmc_L_take := Z0
  refine x_el (L' := [(0, rv K.1), (1, iv t), (2, iv k1), (3, iv u), (4, rv oc)]) rfl ?_
  refine x_aload Z dL_take_0 rfl ?_
  refine x_aload_n Z dL_take_2 rfl rfl ?_
  refine x_iload_n Z dL_take_3 rfl rfl ?_
  refine x_iload_n Z dL_take_4 rfl rfl ?_
  refine x_iload_n Z dL_take_5 rfl rfl ?_
  refine x_callVx (ci := 3) (C := RX2) (T := TX2) (N := 4) Z okX2_take q474 q475 q476 rfl dL_take_6 (c_X2_take h0 htr hS (by assumption) (by assumption) (by assumption)) hS.1 ⟨Nat.le_of_ble_eq_true rfl, Nat.le_of_ble_eq_true rfl, Nat.le_of_ble_eq_true rfl, Nat.le_of_ble_eq_true rfl⟩ rfl rfl (Nat.le_of_ble_eq_true rfl) (fun X w9 hX => ?_) (fun v9 w9 hR => ?_)
  ·
    obtain ⟨rfl, e9, hn1⟩ := hX
    rw [e9]
    refine x_ct1 Z E q307 q319 rfl (by decide) (fun q9 => ?_)
    refine x_astore (L' := [(5, _), (0, _), (1, _), (2, _), (3, _), (4, _)]) Z dL_take_16 (Nat.le_of_ble_eq_true rfl) rfl ?_
    refine x_iconst Z dL_take_18 ?_
    exact x_iret Z E (by first | exact ⟨0, rfl, dA.of hP9 trivial hS9 hd9 hf9 hd⟩ | exact ⟨1, rfl, Or.inl ⟨rfl, hn1, rfl⟩⟩ | exact ⟨2, rfl, Or.inr (Or.inl ⟨rfl, ho1, hn2, rfl⟩)⟩) dL_take_19 (Nat.le_of_ble_eq_true rfl) (Nat.le_of_ble_eq_true rfl)
  obtain ⟨⟨z, rfl, M9, hS9, hd9, hf9⟩, hP9⟩ := hR
  have ho9 := hf9.at hd ho
  simp only [Option.toList_some, Option.toList_none, List.cons_append, List.nil_append]
  refine x_i2l Z dL_take_9 ?_
  refine x_putfN (ci := 4) (j := 0) (C := RX3) (T := TX3) (N := 2) (fs' := [_, _]) Z tyX3 tyX3_ok nmX3 inX3g rfl (by decide) q297 rfl rfl rfl rfl rfl dL_take_10 (by assumption) (by exact Nat.le_of_ble_eq_true rfl) rfl ?_
  refine x_goto Z 20 dL_take_13 (by decide) ?_
  refine x_iconst Z dL_take_20 ?_
  exact x_iret Z E (by first | exact ⟨0, rfl, dA.of hP9 trivial hS9 hd9 hf9 hd⟩ | exact ⟨1, rfl, Or.inl ⟨rfl, hn1, rfl⟩⟩ | exact ⟨2, rfl, Or.inr (Or.inl ⟨rfl, ho1, hn2, rfl⟩)⟩) dL_take_21 (Nat.le_of_ble_eq_true rfl) (Nat.le_of_ble_eq_true rfl)
abbrev rmc_L_turn : Room := { frames := 8, cells := 1, slots := 6, locals := 142 }
set_option maxRecDepth 100000 in
theorem c_L_turn {l : Launch} {s0 : State} {G : gK} {w : wd} (h0 : gS0 s0) (htr : l.stackTraces = false) {K : kA} {M : kM} {t : Int} {oc : Nat} {yo : Int64} {sv : Value} (hS : kS G w K M) (ht : inr t) (ho : w oc = some (eO 4 [.long yo, sv])) (hd : ¬ kP K oc) : gM l s0 G yL_turn [Cond.codeWith yL_turn cL_turn 4 (some .int) [(0, 10, 13, 19)]] rmc_L_turn [rv K.1, iv t, rv oc] w (fun v w' => ∃ z : Int, v = some (iv z) ∧ dA G w K M oc (0 ≤ t ∧ t < 3) (True) (acTurn M.1 M.2.1 t) sv z w') (noX) := by
  refine g_ofH h0 htr (by decide +kernel) (Nat.le_of_ble_eq_true rfl) ?_
  intro b Z0 E
  have Z : gAm b l s0 G cL_turn RL 4 rmc_L_turn := Z0
  refine x_el (L' := [(0, rv K.1), (1, iv t), (2, rv oc)]) rfl ?_
  refine x_aload_n Z dL_turn_0 rfl rfl ?_
  refine x_aload_n Z dL_turn_1 rfl rfl ?_
  refine x_iload_n Z dL_turn_2 rfl rfl ?_
  refine x_callVx (ci := 3) (C := RX2) (T := TX2) (N := 4) Z okX2_turn q421 q422 q423 rfl dL_turn_3 (c_X2_turn h0 htr hS (by assumption)) hS.1 ⟨Nat.le_of_ble_eq_true rfl, Nat.le_of_ble_eq_true rfl, Nat.le_of_ble_eq_true rfl, Nat.le_of_ble_eq_true rfl⟩ rfl rfl (Nat.le_of_ble_eq_true rfl) (fun X w9 hX => ?_) (fun v9 w9 hR => ?_)
  ·
    obtain ⟨rfl, e9, hn1⟩ := hX
    rw [e9]
    refine x_ct1 Z E q307 q319 rfl (by decide) (fun q9 => ?_)
    refine x_astore_n (L' := [(3, _), (0, _), (1, _), (2, _)]) Z dL_turn_13 rfl (Nat.le_of_ble_eq_true rfl) rfl ?_
    refine x_iconst Z dL_turn_14 ?_
    exact x_iret Z E (by first | exact ⟨0, rfl, dA.of hP9 trivial hS9 hd9 hf9 hd⟩ | exact ⟨1, rfl, Or.inl ⟨rfl, hn1, rfl⟩⟩ | exact ⟨2, rfl, Or.inr (Or.inl ⟨rfl, ho1, hn2, rfl⟩)⟩) dL_turn_15 (Nat.le_of_ble_eq_true rfl) (Nat.le_of_ble_eq_true rfl)
  obtain ⟨⟨z, rfl, M9, hS9, hd9, hf9⟩, hP9⟩ := hR
  have ho9 := hf9.at hd ho
  simp only [Option.toList_some, Option.toList_none, List.cons_append, List.nil_append]
  refine x_i2l Z dL_turn_6 ?_
  refine x_putfN (ci := 4) (j := 0) (C := RX3) (T := TX3) (N := 2) (fs' := [_, _]) Z tyX3 tyX3_ok nmX3 inX3g rfl (by decide) q297 rfl rfl rfl rfl rfl dL_turn_7 (by assumption) (by exact Nat.le_of_ble_eq_true rfl) rfl ?_
  refine x_goto Z 16 dL_turn_10 (by decide) ?_
  refine x_iconst Z dL_turn_16 ?_
  exact x_iret Z E (by first | exact ⟨0, rfl, dA.of hP9 trivial hS9 hd9 hf9 hd⟩ | exact ⟨1, rfl, Or.inl ⟨rfl, hn1, rfl⟩⟩ | exact ⟨2, rfl, Or.inr (Or.inl ⟨rfl, ho1, hn2, rfl⟩)⟩) dL_turn_17 (Nat.le_of_ble_eq_true rfl) (Nat.le_of_ble_eq_true rfl)
abbrev rmc_L_within : Room := { frames := 8, cells := 2, slots := 12, locals := 143 }
set_option maxRecDepth 100000 in
theorem c_L_within {l : Launch} {s0 : State} {G : gK} {w : wd} (h0 : gS0 s0) (htr : l.stackTraces = false) {K : kA} {M : kM} {q : Int} {u : Int} {oc : Nat} {yo : Int64} {sv : Value} (hS : kS G w K M) (hq : inr q) (hu : inr u) (ho : w oc = some (eO 4 [.long yo, sv])) (hd : ¬ kP K oc) : gM l s0 G yL_within [Cond.codeWith yL_within cL_within 5 (some .int) [(0, 18, 21, 21)]] rmc_L_within [rv K.1, iv q, iv u, rv oc] w (fun v w' => ∃ z : Int, v = some (iv z) ∧ dQ w oc z (((0 ≤ q ∧ q < 14)) ∧ 0 ≤ u ∧ u < 14) (cond ((decide (findI (fun c => so c q && !so c u) 0 256 = 256))) 1 0) sv w') (noX) := by
  refine g_ofH h0 htr (by decide +kernel) (Nat.le_of_ble_eq_true rfl) ?_
  intro b Z0 E
  have Z : gAm b l s0 G cL_within RL 5 rmc_L_within := Z0
  refine x_el (L' := [(0, rv K.1), (1, iv q), (2, iv u), (3, rv oc)]) rfl ?_
  refine x_aload_n Z dL_within_0 rfl rfl ?_
  refine x_aload_n Z dL_within_1 rfl rfl ?_
  refine x_iload_n Z dL_within_2 rfl rfl ?_
  refine x_iload_n Z dL_within_3 rfl rfl ?_
  refine x_callVx (ci := 3) (C := RX2) (T := TX2) (N := 4) Z okX2_within q571 q572 q573 rfl dL_within_4 (c_X2_within h0 htr hS (by assumption) (by assumption)) hS.1 ⟨Nat.le_of_ble_eq_true rfl, Nat.le_of_ble_eq_true rfl, Nat.le_of_ble_eq_true rfl, Nat.le_of_ble_eq_true rfl⟩ rfl rfl (Nat.le_of_ble_eq_true rfl) (fun X w9 hX => ?_) (fun v9 w9 hR => ?_)
  ·
    obtain ⟨rfl, e9, hnP⟩ := hX
    rw [e9]
    refine x_ct1 Z E q308 q228 rfl (by decide) (fun q9 => ?_)
    refine x_astore (L' := [(4, _), (0, _), (1, _), (2, _), (3, _)]) Z dL_within_21 (Nat.le_of_ble_eq_true rfl) rfl ?_
    refine x_iconst Z dL_within_23 ?_
    exact x_iret Z E (by first | exact ⟨0, rfl, Or.inr ⟨rfl, hP9, by rw [c7]; rfl⟩⟩ | exact ⟨1, rfl, Or.inl ⟨rfl, hnP, rfl⟩⟩) dL_within_24 (Nat.le_of_ble_eq_true rfl) (Nat.le_of_ble_eq_true rfl)
  obtain ⟨⟨rfl, e9⟩, hP9⟩ := hR
  refine x_ew e9 ?_
  have hS9 := hS
  have hf9 : fr (kP K) w w := fr.rf
  have ho9 := ho
  simp only [Option.toList_some, Option.toList_none, List.cons_append, List.nil_append]
  refine x_ifb_eq Z 14 dL_within_7 (by decide) (fun c7 => ?_) (fun c7 => ?_)
  ·
    refine x_lconst Z dL_within_14 ?_
    refine x_putfN (ci := 4) (j := 0) (C := RX3) (T := TX3) (N := 2) (fs' := [_, _]) Z tyX3 tyX3_ok nmX3 inX3g rfl (by decide) q297 rfl rfl rfl rfl rfl dL_within_15 (by assumption) (by exact Nat.le_of_ble_eq_true rfl) rfl ?_
    refine x_goto Z 25 dL_within_18 (by decide) ?_
    refine x_iconst Z dL_within_25 ?_
    exact x_iret Z E (by first | exact ⟨0, rfl, Or.inr ⟨rfl, hP9, by rw [c7]; rfl⟩⟩ | exact ⟨1, rfl, Or.inl ⟨rfl, hnP, rfl⟩⟩) dL_within_26 (Nat.le_of_ble_eq_true rfl) (Nat.le_of_ble_eq_true rfl)
  ·
    refine x_lconst Z dL_within_10 ?_
    refine x_goto Z 15 dL_within_11 (by decide) ?_
    refine x_putfN (ci := 4) (j := 0) (C := RX3) (T := TX3) (N := 2) (fs' := [_, _]) Z tyX3 tyX3_ok nmX3 inX3g rfl (by decide) q297 rfl rfl rfl rfl rfl dL_within_15 (by assumption) (by exact Nat.le_of_ble_eq_true rfl) rfl ?_
    refine x_goto Z 25 dL_within_18 (by decide) ?_
    refine x_iconst Z dL_within_25 ?_
    exact x_iret Z E (by first | exact ⟨0, rfl, Or.inr ⟨rfl, hP9, by rw [c7]; rfl⟩⟩ | exact ⟨1, rfl, Or.inl ⟨rfl, hnP, rfl⟩⟩) dL_within_26 (Nat.le_of_ble_eq_true rfl) (Nat.le_of_ble_eq_true rfl)
