/-! words of the tables, fields of the classes, what stands of each method -/
theorem q36 : Cond.initialized RX2 ∈ gT := gt_of 36 rfl rfl
theorem q37 : Cond.initialized RX1 ∈ gT := gt_of 37 rfl rfl
theorem q45 : Cond.initialized RX0 ∈ gT := gt_of 45 rfl rfl
theorem q72 : Cond.fieldLink RX1 9 "Kindcutter$Text" "row" "[B" ∈ gT := gt_of 72 rfl rfl
theorem q73 : Cond.fieldLink RX1 19 "Kindcutter$Text" "many" "I" ∈ gT := gt_of 73 rfl rfl
theorem q109 : Cond.static yX0_kindNumber ∈ gT := gt_of 109 rfl rfl
theorem q110 : Cond.code yX0_kindNumber cX0_kindNumber 1 (some .int) ∈ gT := gt_of 110 rfl rfl
theorem q111 : Cond.fieldLink RX0 11 "Kindcutter$Signs" "KINDS" "[B" ∈ gT := gt_of 111 rfl rfl
theorem q121 : Cond.methodLink RX1 49 yX1_longestAt ∈ gT := gt_of 121 rfl rfl
theorem q122 : Cond.instanceMethod yX1_longestAt ∈ gT := gt_of 122 rfl rfl
theorem q123 : Cond.selects RX1 yX1_longestAt yX1_longestAt ∈ gT := gt_of 123 rfl rfl
theorem q124 : Cond.code yX1_longestAt cX1_longestAt 4 (some .int) ∈ gT := gt_of 124 rfl rfl
theorem q125 : Cond.methodLink RX1 23 yX1_signAt ∈ gT := gt_of 125 rfl rfl
theorem q126 : Cond.instanceMethod yX1_signAt ∈ gT := gt_of 126 rfl rfl
theorem q127 : Cond.selects RX1 yX1_signAt yX1_signAt ∈ gT := gt_of 127 rfl rfl
theorem q128 : Cond.code yX1_signAt cX1_signAt 2 (some .int) ∈ gT := gt_of 128 rfl rfl
theorem q129 : Cond.methodLink RX1 46 yX0_sortBegunBy ∈ gT := gt_of 129 rfl rfl
theorem q130 : Cond.static yX0_sortBegunBy ∈ gT := gt_of 130 rfl rfl
theorem q131 : Cond.code yX0_sortBegunBy cX0_sortBegunBy 2 (some .int) ∈ gT := gt_of 131 rfl rfl
theorem q132 : Cond.fieldLink RX0 30 "Kindcutter$Signs" "FIRST_OF_SORT" "[I" ∈ gT := gt_of 132 rfl rfl
theorem q134 : Cond.methodLink RX0 27 yX0_isSo ∈ gT := gt_of 134 rfl rfl
theorem q135 : Cond.static yX0_isSo ∈ gT := gt_of 135 rfl rfl
theorem q136 : Cond.code yX0_isSo cX0_isSo 3 (some .boolean) ∈ gT := gt_of 136 rfl rfl
theorem q137 : Cond.fieldLink RX0 15 "Kindcutter$Signs" "KINDS_OF_QUESTION" "[I" ∈ gT := gt_of 137 rfl rfl
theorem q139 : Cond.methodLinkNest RX0 19 yX2_isIn RX2 ∈ gT := gt_of 139 rfl rfl
theorem q140 : Cond.static yX2_isIn ∈ gT := gt_of 140 rfl rfl
theorem q141 : Cond.code yX2_isIn cX2_isIn 2 (some .boolean) ∈ gT := gt_of 141 rfl rfl
theorem q142 : Cond.methodLink RX0 23 yX0_isBlank ∈ gT := gt_of 142 rfl rfl
theorem q143 : Cond.static yX0_isBlank ∈ gT := gt_of 143 rfl rfl
theorem q144 : Cond.code yX0_isBlank cX0_isBlank 1 (some .boolean) ∈ gT := gt_of 144 rfl rfl
theorem q145 : Cond.methodLink RX1 56 yX0_questionOfOthers ∈ gT := gt_of 145 rfl rfl
theorem q146 : Cond.static yX0_questionOfOthers ∈ gT := gt_of 146 rfl rfl
theorem q147 : Cond.code yX0_questionOfOthers cX0_questionOfOthers 1 (some .int) ∈ gT := gt_of 147 rfl rfl
theorem q148 : Cond.fieldLink RX0 33 "Kindcutter$Signs" "OTHERS_OF_SORT" "[I" ∈ gT := gt_of 148 rfl rfl
theorem q150 : Cond.methodLink RX1 32 yX0_isSo ∈ gT := gt_of 150 rfl rfl
theorem q184 : Cond.methodLink RX1 52 yX0_isLet ∈ gT := gt_of 184 rfl rfl
theorem q185 : Cond.static yX0_isLet ∈ gT := gt_of 185 rfl rfl
theorem q186 : Cond.code yX0_isLet cX0_isLet 2 (some .boolean) ∈ gT := gt_of 186 rfl rfl
theorem q199 : Cond.constantLong RX2 216 31 ∈ gT := gt_of 199 rfl rfl
theorem q200 : Cond.methodLink RX1 36 yX1_kindAt ∈ gT := gt_of 200 rfl rfl
theorem q201 : Cond.instanceMethod yX1_kindAt ∈ gT := gt_of 201 rfl rfl
theorem q202 : Cond.selects RX1 yX1_kindAt yX1_kindAt ∈ gT := gt_of 202 rfl rfl
theorem q203 : Cond.code yX1_kindAt cX1_kindAt 2 (some .int) ∈ gT := gt_of 203 rfl rfl
theorem q204 : Cond.methodLink RX1 27 yX0_kindNumber ∈ gT := gt_of 204 rfl rfl
set_option maxRecDepth 100000 in
theorem inX1g : ∀ q ∈ u_ws RX1 TX1 3, q ∈ gT := by decide +kernel
set_option maxRecDepth 100000 in
theorem inX2g : ∀ q ∈ u_ws RX2 TX2 4, q ∈ gT := by decide +kernel
set_option maxRecDepth 100000 in
theorem inX3g : ∀ q ∈ u_ws RX3 TX3 2, q ∈ gT := by decide +kernel
set_option maxRecDepth 100000 in
theorem inX4g : ∀ q ∈ u_ws RX4 TX4 7, q ∈ gT := by decide +kernel
set_option maxRecDepth 100000 in
theorem wsIO : ∀ q ∈ Cond.classLink RX2 47 "java/lang/IndexOutOfBoundsException" :: Cond.initialized "java/lang/IndexOutOfBoundsException" :: vx_at0 RX2 49 "java/lang/IndexOutOfBoundsException" exN, q ∈ gT ∧ vx_ot q = true := by decide +kernel
set_option maxRecDepth 100000 in
theorem wsIA : ∀ q ∈ Cond.classLink RX2 71 "java/lang/IllegalArgumentException" :: Cond.initialized "java/lang/IllegalArgumentException" :: vx_at0 RX2 73 "java/lang/IllegalArgumentException" exN, q ∈ gT ∧ vx_ot q = true := by decide +kernel
theorem okX2_isIn : gOk yX2_isIn cX2_isIn 2 (some .boolean) 2 := ⟨q141, q36, ⟨by decide +kernel, by decide +kernel⟩, by decide +kernel⟩
theorem okX0_isBlank : gOk yX0_isBlank cX0_isBlank 1 (some .boolean) 1 := ⟨q144, q45, ⟨by decide +kernel, by decide +kernel⟩, by decide +kernel⟩
theorem okX0_isSo : gOk yX0_isSo cX0_isSo 3 (some .boolean) 2 := ⟨q136, q45, ⟨by decide +kernel, by decide +kernel⟩, by decide +kernel⟩
theorem okX1_signAt : gOk yX1_signAt cX1_signAt 2 (some .int) 1 := ⟨q128, q37, ⟨by decide +kernel, by decide +kernel⟩, by decide +kernel⟩
theorem okX0_kindNumber : gOk yX0_kindNumber cX0_kindNumber 1 (some .int) 1 := ⟨q110, q45, ⟨by decide +kernel, by decide +kernel⟩, by decide +kernel⟩
theorem okX1_kindAt : gOk yX1_kindAt cX1_kindAt 2 (some .int) 1 := ⟨q203, q37, ⟨by decide +kernel, by decide +kernel⟩, by decide +kernel⟩
theorem okX0_sortBegunBy : gOk yX0_sortBegunBy cX0_sortBegunBy 2 (some .int) 1 := ⟨q131, q45, ⟨by decide +kernel, by decide +kernel⟩, by decide +kernel⟩
theorem okX0_questionOfOthers : gOk yX0_questionOfOthers cX0_questionOfOthers 1 (some .int) 1 := ⟨q147, q45, ⟨by decide +kernel, by decide +kernel⟩, by decide +kernel⟩
theorem okX1_longestAt : gOk yX1_longestAt cX1_longestAt 4 (some .int) 1 := ⟨q124, q37, ⟨by decide +kernel, by decide +kernel⟩, by decide +kernel⟩
theorem okX0_isLet : gOk yX0_isLet cX0_isLet 2 (some .boolean) 2 := ⟨q186, q45, ⟨by decide +kernel, by decide +kernel⟩, by decide +kernel⟩
