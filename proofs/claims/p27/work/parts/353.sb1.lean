/-! sb1: walks, by program -/
theorem q46 : Cond.initialized RJ5 ∈ gT := gt_1 11 rfl rfl
theorem q47 : Cond.initialized RJ4 ∈ gT := gt_1 12 rfl rfl
theorem q48 : Cond.initialized RJ0 ∈ gT := gt_1 13 rfl rfl
theorem q50 : Cond.initialized RJ8 ∈ gT := gt_1 15 rfl rfl
theorem q52 : Cond.initialized RJ7 ∈ gT := gt_1 17 rfl rfl
theorem q53 : Cond.initialized RJ10 ∈ gT := gt_1 18 rfl rfl
theorem q54 : Cond.initialized RJ1 ∈ gT := gt_1 19 rfl rfl
theorem q608 : Cond.methodLink RJ4 1 yJ5_init_d00df ∈ gT := gt_3 93 rfl rfl
theorem q609 : Cond.instanceMethod yJ5_init_d00df ∈ gT := gt_3 94 rfl rfl
theorem q610 : Cond.code yJ5_init_d00df cJ5_init_d00df 2 none ∈ gT := gt_3 95 rfl rfl
theorem q611 : Cond.methodLink RJ5 3 objectInit ∈ gT := gt_3 96 rfl rfl
theorem q612 : Cond.fieldLink RJ5 18 "java/lang/String" "COMPACT_STRINGS" "Z" ∈ gT := gt_3 97 rfl rfl
theorem q621 : Cond.fieldLink RJ5 15 "java/lang/AbstractStringBuilder" "value" "[B" ∈ gT := gt_3 106 rfl rfl
theorem q622 : Cond.fieldLink RJ5 22 "java/lang/AbstractStringBuilder" "coder" "B" ∈ gT := gt_3 107 rfl rfl
theorem q624 : Cond.fieldLink RJ5 79 "java/lang/AbstractStringBuilder" "count" "I" ∈ gT := gt_3 109 rfl rfl
theorem q633 : Cond.superclass RJ4 RJ5 ∈ gT := gt_3 118 rfl rfl
theorem q638 : Cond.instanceMethod yJ4_length_8abf5 ∈ gT := gt_3 123 rfl rfl
theorem q640 : Cond.code yJ4_length_8abf5 cJ4_length_8abf5 1 (some .int) ∈ gT := gt_3 125 rfl rfl
theorem q641 : Cond.methodLink RJ4 343 yJ5_length_8abf5 ∈ gT := gt_3 126 rfl rfl
theorem q642 : Cond.instanceMethod yJ5_length_8abf5 ∈ gT := gt_3 127 rfl rfl
theorem q643 : Cond.code yJ5_length_8abf5 cJ5_length_8abf5 1 (some .int) ∈ gT := gt_3 128 rfl rfl
theorem q648 : Cond.methodLink RJ4 50 yJ5_append_3fe6f ∈ gT := gt_3 133 rfl rfl
theorem q649 : Cond.instanceMethod yJ5_append_3fe6f ∈ gT := gt_3 134 rfl rfl
theorem q650 : Cond.code yJ5_append_3fe6f cJ5_append_3fe6f 2 (some (.object "java/lang/AbstractStringBuilder")) ∈ gT := gt_3 135 rfl rfl
theorem q651 : Cond.methodLink RJ5 100 yJ5_ensureCapacityInternal_d00df ∈ gT := gt_3 136 rfl rfl
theorem q652 : Cond.privateMethod yJ5_ensureCapacityInternal_d00df ∈ lw_tbl := lt_3 137 rfl
theorem q653 : Cond.instanceMethod yJ5_ensureCapacityInternal_d00df ∈ gT := gt_3 138 rfl rfl
theorem q654 : Cond.code yJ5_ensureCapacityInternal_d00df cJ5_ensureCapacityInternal_d00df 3 none ∈ gT := gt_3 139 rfl rfl
theorem q655 : Cond.methodLink RJ5 104 yJ5_newCapacity_0f7a4 ∈ gT := gt_3 140 rfl rfl
theorem q656 : Cond.privateMethod yJ5_newCapacity_0f7a4 ∈ lw_tbl := lt_3 141 rfl
theorem q657 : Cond.instanceMethod yJ5_newCapacity_0f7a4 ∈ gT := gt_3 142 rfl rfl
theorem q658 : Cond.code yJ5_newCapacity_0f7a4 cJ5_newCapacity_0f7a4 6 (some .int) ∈ gT := gt_3 143 rfl rfl
theorem q659 : Cond.methodLink RJ5 114 yJ8_newLength_cabcc ∈ gT := gt_3 144 rfl rfl
theorem q660 : Cond.static yJ8_newLength_cabcc ∈ gT := gt_3 145 rfl rfl
theorem q661 : Cond.code yJ8_newLength_cabcc cJ8_newLength_cabcc 4 (some .int) ∈ gT := gt_3 146 rfl rfl
theorem q662 : Cond.methodLink RJ8 194 yJ9_max_7cf53 ∈ gT := gt_3 147 rfl rfl
theorem q663 : Cond.static yJ9_max_7cf53 ∈ gT := gt_3 148 rfl rfl
theorem q664 : Cond.code yJ9_max_7cf53 cJ9_max_7cf53 2 (some .int) ∈ gT := gt_3 149 rfl rfl
theorem q665 : Cond.constant RJ8 200 2147483639 ∈ gT := gt_3 150 rfl rfl
theorem q669 : Cond.constant RJ5 39 2147483647 ∈ gT := gt_3 154 rfl rfl
theorem q670 : Cond.methodLink RJ5 108 yJ7_copyOf_9075b ∈ gT := gt_3 155 rfl rfl
theorem q671 : Cond.static yJ7_copyOf_9075b ∈ gT := gt_3 156 rfl rfl
theorem q672 : Cond.code yJ7_copyOf_9075b cJ7_copyOf_9075b 3 (some (.array .byte)) ∈ gT := gt_3 157 rfl rfl
theorem q673 : Cond.methodLink RJ7 310 ⟨"[B", "clone", "()Ljava/lang/Object;"⟩ ∈ gT := gt_3 158 rfl rfl
theorem q674 : Cond.sameMethod "[B" "java/lang/Object" "clone" "()Ljava/lang/Object;" ∈ gT := gt_3 159 rfl rfl
theorem q675 : Cond.native ⟨"java/lang/Object", "clone", "()Ljava/lang/Object;"⟩ ∈ gT := gt_3 160 rfl rfl
theorem q676 : Cond.instanceMethod ⟨"java/lang/Object", "clone", "()Ljava/lang/Object;"⟩ ∈ gT := gt_3 161 rfl rfl
theorem q677 : Cond.selects "[B" ⟨"[B", "clone", "()Ljava/lang/Object;"⟩ ⟨"java/lang/Object", "clone", "()Ljava/lang/Object;"⟩ ∈ gT := gt_3 162 rfl rfl
theorem q678 : Cond.castable "[B" "java/lang/Cloneable" ∈ gT := gt_3 163 rfl rfl
theorem q679 : Cond.classLink RJ7 311 "[B" ∈ gT := gt_3 164 rfl rfl
theorem q680 : Cond.methodLink RJ7 304 yJ9_min_7cf53 ∈ gT := gt_3 165 rfl rfl
theorem q681 : Cond.methodLink RJ7 150 arraycopyName ∈ gT := gt_3 166 rfl rfl
theorem q682 : Cond.static arraycopyName ∈ gT := gt_3 167 rfl rfl
theorem q683 : Cond.native arraycopyName ∈ gT := gt_3 168 rfl rfl
theorem q684 : Cond.methodLink RJ5 83 yJ5_isLatin1_aae02 ∈ gT := gt_3 169 rfl rfl
theorem q685 : Cond.instanceMethod yJ5_isLatin1_aae02 ∈ gT := gt_3 170 rfl rfl
theorem q686 : Cond.sameMethod RJ5 RJ5 "isLatin1" "()Z" ∈ gT := gt_3 171 rfl rfl
theorem q687 : Cond.selects RJ4 yJ5_isLatin1_aae02 yJ5_isLatin1_aae02 ∈ gT := gt_3 172 rfl rfl
theorem q688 : Cond.code yJ5_isLatin1_aae02 cJ5_isLatin1_aae02 1 (some .boolean) ∈ gT := gt_3 173 rfl rfl
theorem q689 : Cond.methodLink RJ5 191 yJ1_canEncode_fc78d ∈ gT := gt_3 174 rfl rfl
theorem q690 : Cond.static yJ1_canEncode_fc78d ∈ gT := gt_3 175 rfl rfl
theorem q691 : Cond.code yJ1_canEncode_fc78d cJ1_canEncode_fc78d 1 (some .boolean) ∈ gT := gt_3 176 rfl rfl
theorem q741 : Cond.methodLink RJ4 53 yJ5_append_c97b9 ∈ gT := gt_3 226 rfl rfl
theorem q742 : Cond.instanceMethod yJ5_append_c97b9 ∈ gT := gt_3 227 rfl rfl
theorem q743 : Cond.code yJ5_append_c97b9 cJ5_append_c97b9 4 (some (.object "java/lang/AbstractStringBuilder")) ∈ gT := gt_3 228 rfl rfl
theorem q744 : Cond.methodLink RJ5 245 yJ6_stringSize_0f7a4 ∈ gT := gt_3 229 rfl rfl
theorem q745 : Cond.static yJ6_stringSize_0f7a4 ∈ gT := gt_3 230 rfl rfl
theorem q746 : Cond.code yJ6_stringSize_0f7a4 cJ6_stringSize_0f7a4 4 (some .int) ∈ gT := gt_3 231 rfl rfl
theorem q747 : Cond.methodLink RJ5 248 yJ6_getChars_ba4f3 ∈ gT := gt_3 232 rfl rfl
theorem q748 : Cond.static yJ6_getChars_ba4f3 ∈ gT := gt_3 233 rfl rfl
theorem q749 : Cond.code yJ6_getChars_ba4f3 cJ6_getChars_ba4f3 7 (some .int) ∈ gT := gt_3 234 rfl rfl
theorem q750 : Cond.fieldLink RJ6 83 "java/lang/Integer" "DigitOnes" "[B" ∈ gT := gt_3 235 rfl rfl
theorem q752 : Cond.fieldLink RJ6 87 "java/lang/Integer" "DigitTens" "[B" ∈ gT := gt_3 237 rfl rfl
theorem q775 : Cond.classLink RJ4 18 RJ0 ∈ gT := gt_4 20 rfl rfl
theorem q776 : Cond.instantiable RJ0 4 ∈ gT := gt_4 21 rfl rfl
theorem q777 : Cond.methodLink RJ4 137 yJ0_init_81219 ∈ gT := gt_4 22 rfl rfl
theorem q778 : Cond.instanceMethod yJ0_init_81219 ∈ gT := gt_4 23 rfl rfl
theorem q779 : Cond.code yJ0_init_81219 cJ0_init_81219 2 none ∈ gT := gt_4 24 rfl rfl
theorem q780 : Cond.methodLink RJ0 489 yJ0_init_db425 ∈ gT := gt_4 25 rfl rfl
theorem q781 : Cond.instanceMethod yJ0_init_db425 ∈ gT := gt_4 26 rfl rfl
theorem q782 : Cond.code yJ0_init_db425 cJ0_init_db425 5 none ∈ gT := gt_4 27 rfl rfl
theorem q783 : Cond.methodLink RJ0 1 objectInit ∈ gT := gt_4 28 rfl rfl
theorem q784 : Cond.methodLink RJ0 552 yJ5_getValue_6d5f1 ∈ gT := gt_4 29 rfl rfl
theorem q785 : Cond.instanceMethod yJ5_getValue_6d5f1 ∈ gT := gt_4 30 rfl rfl
theorem q786 : Cond.sameMethod RJ5 RJ5 "getValue" "()[B" ∈ gT := gt_4 31 rfl rfl
theorem q787 : Cond.selects RJ4 yJ5_getValue_6d5f1 yJ5_getValue_6d5f1 ∈ gT := gt_4 32 rfl rfl
theorem q788 : Cond.code yJ5_getValue_6d5f1 cJ5_getValue_6d5f1 1 (some (.array .byte)) ∈ gT := gt_4 33 rfl rfl
theorem q789 : Cond.methodLink RJ0 549 yJ5_length_8abf5 ∈ gT := gt_4 34 rfl rfl
theorem q790 : Cond.methodLink RJ0 1047 yJ5_isLatin1_aae02 ∈ gT := gt_4 35 rfl rfl
theorem q791 : Cond.methodLink RJ0 54 yJ7_copyOfRange_39247 ∈ gT := gt_4 36 rfl rfl
theorem q792 : Cond.static yJ7_copyOfRange_39247 ∈ gT := gt_4 37 rfl rfl
theorem q793 : Cond.code yJ7_copyOfRange_39247 cJ7_copyOfRange_39247 3 (some (.array .byte)) ∈ gT := gt_4 38 rfl rfl
theorem q794 : Cond.methodLink RJ7 339 yJ7_copyOfRangeByte_39247 ∈ gT := gt_4 39 rfl rfl
theorem q795 : Cond.static yJ7_copyOfRangeByte_39247 ∈ gT := gt_4 40 rfl rfl
theorem q796 : Cond.code yJ7_copyOfRangeByte_39247 cJ7_copyOfRangeByte_39247 5 (some (.array .byte)) ∈ gT := gt_4 41 rfl rfl
theorem q797 : Cond.methodLink RJ7 343 yJ7_checkLength_df160 ∈ gT := gt_4 42 rfl rfl
theorem q798 : Cond.static yJ7_checkLength_df160 ∈ gT := gt_4 43 rfl rfl
theorem q799 : Cond.code yJ7_checkLength_df160 cJ7_checkLength_df160 2 none ∈ gT := gt_4 44 rfl rfl
theorem q869 : Cond.fieldLink RJ0 9 "java/lang/String" "value" "[B" ∈ gT := gt_4 114 rfl rfl
theorem q870 : Cond.fieldLink RJ0 15 "java/lang/String" "coder" "B" ∈ gT := gt_4 115 rfl rfl
theorem q1398 : Cond.sameMethod RJ5 RJ5 "length" "()I" ∈ gT := gt_6 163 rfl rfl
theorem q1399 : Cond.sameMethod RJ5 RJ5 "append" "(C)Ljava/lang/AbstractStringBuilder;" ∈ gT := gt_6 164 rfl rfl
theorem q1400 : Cond.sameMethod RJ5 RJ5 "ensureCapacityInternal" "(I)V" ∈ gT := gt_6 165 rfl rfl
theorem q1401 : Cond.sameMethod RJ5 RJ5 "newCapacity" "(I)I" ∈ gT := gt_6 166 rfl rfl
theorem q1403 : Cond.sameMethod RJ5 RJ5 "append" "(I)Ljava/lang/AbstractStringBuilder;" ∈ gT := gt_6 168 rfl rfl
theorem q1404 : Cond.selects RJ4 yJ5_length_8abf5 yJ4_length_8abf5 ∈ gT := gt_6 169 rfl rfl
theorem okJ5_init_d00df : gOk yJ5_init_d00df cJ5_init_d00df 2 none 1 := ⟨q610, q46, ⟨by decide +kernel, by decide +kernel⟩, by decide +kernel⟩
theorem okJ5_length_8abf5 : gOk yJ5_length_8abf5 cJ5_length_8abf5 1 (some .int) 0 := ⟨q643, q46, ⟨by decide +kernel, by decide +kernel⟩, by decide +kernel⟩
theorem okJ8_newLength_cabcc : gOk yJ8_newLength_cabcc cJ8_newLength_cabcc 4 (some .int) 3 := ⟨q661, q50, ⟨by decide +kernel, by decide +kernel⟩, by decide +kernel⟩
theorem okJ5_newCapacity_0f7a4 : gOk yJ5_newCapacity_0f7a4 cJ5_newCapacity_0f7a4 6 (some .int) 1 := ⟨q658, q46, ⟨by decide +kernel, by decide +kernel⟩, by decide +kernel⟩
theorem okJ7_copyOf_9075b : gOk yJ7_copyOf_9075b cJ7_copyOf_9075b 3 (some (.array .byte)) 2 := ⟨q672, q52, ⟨by decide +kernel, by decide +kernel⟩, by decide +kernel⟩
theorem okJ5_ensureCapacityInternal_d00df : gOk yJ5_ensureCapacityInternal_d00df cJ5_ensureCapacityInternal_d00df 3 none 1 := ⟨q654, q46, ⟨by decide +kernel, by decide +kernel⟩, by decide +kernel⟩
theorem okJ5_isLatin1_aae02 : gOk yJ5_isLatin1_aae02 cJ5_isLatin1_aae02 1 (some .boolean) 0 := ⟨q688, q46, ⟨by decide +kernel, by decide +kernel⟩, by decide +kernel⟩
theorem okJ1_canEncode_fc78d : gOk yJ1_canEncode_fc78d cJ1_canEncode_fc78d 1 (some .boolean) 1 := ⟨q691, q54, ⟨by decide +kernel, by decide +kernel⟩, by decide +kernel⟩
theorem okJ5_append_3fe6f : gOk yJ5_append_3fe6f cJ5_append_3fe6f 2 (some (.object "java/lang/AbstractStringBuilder")) 1 := ⟨q650, q46, ⟨by decide +kernel, by decide +kernel⟩, by decide +kernel⟩
theorem okJ6_stringSize_0f7a4 : gOk yJ6_stringSize_0f7a4 cJ6_stringSize_0f7a4 4 (some .int) 1 := ⟨q746, q56, ⟨by decide +kernel, by decide +kernel⟩, by decide +kernel⟩
theorem okJ6_getChars_ba4f3 : gOk yJ6_getChars_ba4f3 cJ6_getChars_ba4f3 7 (some .int) 3 := ⟨q749, q56, ⟨by decide +kernel, by decide +kernel⟩, by decide +kernel⟩
theorem okJ5_append_c97b9 : gOk yJ5_append_c97b9 cJ5_append_c97b9 4 (some (.object "java/lang/AbstractStringBuilder")) 1 := ⟨q743, q46, ⟨by decide +kernel, by decide +kernel⟩, by decide +kernel⟩
theorem okJ7_checkLength_df160 : gOk yJ7_checkLength_df160 cJ7_checkLength_df160 2 none 2 := ⟨q799, q52, ⟨by decide +kernel, by decide +kernel⟩, by decide +kernel⟩
theorem okJ7_copyOfRangeByte_39247 : gOk yJ7_copyOfRangeByte_39247 cJ7_copyOfRangeByte_39247 5 (some (.array .byte)) 3 := ⟨q796, q52, ⟨by decide +kernel, by decide +kernel⟩, by decide +kernel⟩
theorem okJ5_getValue_6d5f1 : gOk yJ5_getValue_6d5f1 cJ5_getValue_6d5f1 1 (some (.array .byte)) 0 := ⟨q788, q46, ⟨by decide +kernel, by decide +kernel⟩, by decide +kernel⟩
theorem okJ4_length_8abf5 : gOk yJ4_length_8abf5 cJ4_length_8abf5 1 (some .int) 0 := ⟨q640, q47, ⟨by decide +kernel, by decide +kernel⟩, by decide +kernel⟩
theorem okJ7_copyOfRange_39247 : gOk yJ7_copyOfRange_39247 cJ7_copyOfRange_39247 3 (some (.array .byte)) 3 := ⟨q793, q52, ⟨by decide +kernel, by decide +kernel⟩, by decide +kernel⟩
theorem okJ0_init_db425 : gOk yJ0_init_db425 cJ0_init_db425 5 none 2 := ⟨q782, q48, ⟨by decide +kernel, by decide +kernel⟩, by decide +kernel⟩
theorem okJ0_init_81219 : gOk yJ0_init_81219 cJ0_init_81219 2 none 1 := ⟨q779, q48, ⟨by decide +kernel, by decide +kernel⟩, by decide +kernel⟩
set_option maxRecDepth 100000 in
theorem inJ4g : ∀ q ∈ u_ws RJ4 TJ4 4, q ∈ gT := by decide +kernel
set_option maxRecDepth 100000 in
theorem inJ0g : ∀ q ∈ u_ws RJ0 TJ0 4, q ∈ gT := by decide +kernel
abbrev rmc_J5_init_d00df : Room := { frames := 1, cells := 1, slots := 16, locals := 40 }
set_option maxRecDepth 100000 in
theorem c_J5_init_d00df {l : Launch} {s0 : State} {G : gK} {w : wd} (h0 : gS0 s0) (htr : l.stackTraces = false) {a : Nat} (ha : w a = some (eO 1 [.null, iv 0, iv 0, iv 0])) : gM l s0 G yJ5_init_d00df [Cond.code yJ5_init_d00df cJ5_init_d00df 2 none] rmc_J5_init_d00df [rv a, iv 16] w (fun v w' => v = none ∧ ∃ v0, sbS G w' a v0 0 0 16 (fun _ => 0) ∧ w v0 = none ∧ fr (fun x => x = a) w w') (noX) := by
  refine g_of h0 htr (by decide +kernel) (Nat.le_of_ble_eq_true rfl) ?_
  intro b Z0 E
  have Z : gAm b l s0 G cJ5_init_d00df RJ5 2 rmc_J5_init_d00df := Z0
  refine x_el (L' := [(0, rv a), (1, iv 16)]) rfl ?_
  have hzCOMPACT_STRINGS := st_CS h0 Z
  refine x_aload_n Z dJ5_init_d00df_0 rfl rfl ?_
  refine x_objI Z q611 dJ5_init_d00df_1 (Nat.le_of_ble_eq_true rfl) (Nat.le_of_ble_eq_true rfl) (Nat.le_of_ble_eq_true rfl) ?_
  refine x_gets Z hzCOMPACT_STRINGS q612 rfl dJ5_init_d00df_4 ?_
  refine x_if_eq Z 25 dJ5_init_d00df_7 (by decide) ⟨by omega, by omega⟩ (fun c7 => ?_) (fun c7 => ?_)
  · exact absurd c7 (by omega)
  ·
    refine x_aload_n Z dJ5_init_d00df_10 rfl rfl ?_
    refine x_iload_n Z dJ5_init_d00df_11 rfl rfl ?_
    refine x_newB Z (16) q82 (by first | rfl | omega) (by omega) (Nat.le_of_ble_eq_true rfl) (Nat.le_of_ble_eq_true rfl) dJ5_init_d00df_12 (fun n12 hn12 => ?_)
    refine x_gen fun w0 hw0 => ?_
    have hd : a ≠ n12 := fun z => by { rw [z, hn12] at ha; cases ha }
    have ha0 : w0 a = some (eO 1 [.null, iv 0, iv 0, iv 0]) := by { rw [hw0, ws1_n hd]; exact ha }
    have hv0 : w0 n12 = some (eB G 16 (sgF (fun _ => 0))) := by { rw [hw0, ws1_s, eB0] }
    have hf : fr (fun x => x = a) w w0 := by { rw [hw0]; exact fr.rf.new hn12 }
    refine x_putf (ci := 1) (j := 0) (C := RJ4) (T := TJ4) (N := 4) (fs' := [_, _, _, _]) Z tyJ4 tyJ4_ok nmJ4 inJ4g rfl (by decide) q621 rfl rfl rfl rfl rfl dJ5_init_d00df_14 (by assumption) (by exact Nat.le_of_ble_eq_true rfl) rfl ?_
    have hf := hf.set (e := eO 1 [rv n12, iv 0, iv 0, iv 0]) rfl
    refine x_gen fun w1 hw1 => ?_
    have ha1 : w1 a = some (eO 1 [rv n12, iv 0, iv 0, iv 0]) := by { rw [hw1, ws1_s] }
    have hv1 : w1 n12 = some (eB G 16 (sgF (fun _ => 0))) := by { rw [hw1, ws1_n hd.symm]; exact hv0 }
    rw [← hw1] at hf
    refine x_aload_n Z dJ5_init_d00df_17 rfl rfl ?_
    refine x_iconst Z dJ5_init_d00df_18 ?_
    refine x_putf (ci := 1) (j := 1) (C := RJ4) (T := TJ4) (N := 4) (fs' := [_, _, _, _]) Z tyJ4 tyJ4_ok nmJ4 inJ4g rfl (by decide) q622 rfl rfl rfl nb0 (by decide +kernel) dJ5_init_d00df_19 (by assumption) (by exact Nat.le_of_ble_eq_true rfl) rfl ?_
    refine x_ew (ws1_id ha1) ?_
    refine x_goto Z 38 dJ5_init_d00df_22 (by decide) ?_
    exact x_vret Z E (⟨rfl, n12, ⟨ha1, hv1, by decide, by decide, by decide⟩, hn12, hf⟩) dJ5_init_d00df_38 (Nat.le_of_ble_eq_true rfl) (Nat.le_of_ble_eq_true rfl)
abbrev rmc_J4_init_da8c8 : Room := { frames := 2, cells := 1, slots := 16, locals := 61 }
set_option maxRecDepth 100000 in
theorem c_J4_init_da8c8 {l : Launch} {s0 : State} {G : gK} {w : wd} (h0 : gS0 s0) (htr : l.stackTraces = false) {a : Nat} (ha : w a = some (eO 1 [.null, iv 0, iv 0, iv 0])) : gM l s0 G yJ4_init_da8c8 [Cond.code yJ4_init_da8c8 cJ4_init_da8c8 1 none] rmc_J4_init_da8c8 [rv a] w (fun v w' => v = none ∧ ∃ v0, sbS G w' a v0 0 0 16 (fun _ => 0) ∧ w v0 = none ∧ fr (fun x => x = a) w w') (noX) := by
  refine g_of h0 htr (by decide +kernel) (Nat.le_of_ble_eq_true rfl) ?_
  intro b Z0 E
  have Z : gAm b l s0 G cJ4_init_da8c8 RJ4 1 rmc_J4_init_da8c8 := Z0
  refine x_el (L' := [(0, rv a)]) rfl ?_
  refine x_aload_n Z dJ4_init_da8c8_0 rfl rfl ?_
  refine x_bipush Z dJ4_init_da8c8_1 (by decide +kernel) ?_
  refine x_callI Z okJ5_init_d00df q608 q609 rfl dJ4_init_da8c8_3 (c_J5_init_d00df h0 htr (by assumption)) ⟨Nat.le_of_ble_eq_true rfl, Nat.le_of_ble_eq_true rfl, Nat.le_of_ble_eq_true rfl, Nat.le_of_ble_eq_true rfl⟩ rfl rfl (Nat.le_of_ble_eq_true rfl) (fun v9 w9 hR => ?_)
  obtain ⟨rfl, v0, hs, hv0, hf9⟩ := hR
  simp only [Option.toList_some, Option.toList_none, List.cons_append, List.nil_append]
  exact x_vret Z E (⟨rfl, v0, hs, hv0, hf9⟩) dJ4_init_da8c8_6 (Nat.le_of_ble_eq_true rfl) (Nat.le_of_ble_eq_true rfl)
abbrev rmc_J5_length_8abf5 : Room := { frames := 0, cells := 0, slots := 0, locals := 0 }
set_option maxRecDepth 100000 in
theorem c_J5_length_8abf5 {l : Launch} {s0 : State} {G : gK} {w : wd} (h0 : gS0 s0) (htr : l.stackTraces = false) {a v : Nat} {ml n : Int} {m : Nat} {C : Int → Int} (hs : sbS G w a v ml n m C) : gM l s0 G yJ5_length_8abf5 [Cond.code yJ5_length_8abf5 cJ5_length_8abf5 1 (some .int)] rmc_J5_length_8abf5 [rv a] w (fun v w' => v = some (iv (n)) ∧ w' = w) (noX) := by
  refine g_of h0 htr (by decide +kernel) (Nat.le_of_ble_eq_true rfl) ?_
  intro b Z0 E
  have Z : gAm b l s0 G cJ5_length_8abf5 RJ5 1 rmc_J5_length_8abf5 := Z0
  refine x_el (L' := [(0, rv a)]) rfl ?_
  obtain ⟨hsa, hsv, hsn, hsm, hs9⟩ := id hs
  refine x_aload_n Z dJ5_length_8abf5_0 rfl rfl ?_
  refine x_getf (ci := 1) (j := 3) (C := RJ4) (T := TJ4) (N := 4) Z inJ4g rfl (by decide) q624 rfl dJ5_length_8abf5_1 (by assumption) rfl ?_
  exact x_iret Z E (⟨rfl, rfl⟩) dJ5_length_8abf5_4 (Nat.le_of_ble_eq_true rfl) (Nat.le_of_ble_eq_true rfl)
abbrev rmc_J4_length_8abf5 : Room := { frames := 1, cells := 0, slots := 0, locals := 20 }
set_option maxRecDepth 100000 in
theorem c_J4_length_8abf5 {l : Launch} {s0 : State} {G : gK} {w : wd} (h0 : gS0 s0) (htr : l.stackTraces = false) {a v : Nat} {ml n : Int} {m : Nat} {C : Int → Int} (hs : sbS G w a v ml n m C) : gM l s0 G yJ4_length_8abf5 [Cond.code yJ4_length_8abf5 cJ4_length_8abf5 1 (some .int)] rmc_J4_length_8abf5 [rv a] w (fun v w' => v = some (iv (n)) ∧ w' = w) (noX) := by
  refine g_of h0 htr (by decide +kernel) (Nat.le_of_ble_eq_true rfl) ?_
  intro b Z0 E
  have Z : gAm b l s0 G cJ4_length_8abf5 RJ4 1 rmc_J4_length_8abf5 := Z0
  refine x_el (L' := [(0, rv a)]) rfl ?_
  obtain ⟨hsa, hsv, hsn, hsm, hs9⟩ := id hs
  refine x_aload_n Z dJ4_length_8abf5_0 rfl rfl ?_
  refine x_callSU (ci := 1) (C := RJ4) (T := TJ4) (N := 4) Z okJ5_length_8abf5 q641 q1398 q633 q642 (by decide) rfl dJ4_length_8abf5_1 (c_J5_length_8abf5 h0 htr hs) hs.1 ⟨Nat.le_of_ble_eq_true rfl, Nat.le_of_ble_eq_true rfl, Nat.le_of_ble_eq_true rfl, Nat.le_of_ble_eq_true rfl⟩ rfl rfl (Nat.le_of_ble_eq_true rfl) (fun v9 w9 hR => ?_)
  obtain ⟨rfl, e9⟩ := hR
  refine x_ew e9 ?_
  simp only [Option.toList_some, Option.toList_none, List.cons_append, List.nil_append]
  exact x_iret Z E (⟨rfl, rfl⟩) dJ4_length_8abf5_4 (Nat.le_of_ble_eq_true rfl) (Nat.le_of_ble_eq_true rfl)
abbrev rmc_J5_getValue_6d5f1 : Room := { frames := 0, cells := 0, slots := 0, locals := 0 }
set_option maxRecDepth 100000 in
theorem c_J5_getValue_6d5f1 {l : Launch} {s0 : State} {G : gK} {w : wd} (h0 : gS0 s0) (htr : l.stackTraces = false) {a v : Nat} {ml n : Int} {m : Nat} {C : Int → Int} (hs : sbS G w a v ml n m C) : gM l s0 G yJ5_getValue_6d5f1 [Cond.code yJ5_getValue_6d5f1 cJ5_getValue_6d5f1 1 (some (.array .byte))] rmc_J5_getValue_6d5f1 [rv a] w (fun v9 w' => v9 = some (rv v) ∧ w' = w) (noX) := by
  refine g_of h0 htr (by decide +kernel) (Nat.le_of_ble_eq_true rfl) ?_
  intro b Z0 E
  have Z : gAm b l s0 G cJ5_getValue_6d5f1 RJ5 1 rmc_J5_getValue_6d5f1 := Z0
  refine x_el (L' := [(0, rv a)]) rfl ?_
  obtain ⟨hsa, hsv, hsn, hsm, hs9⟩ := id hs
  refine x_aload_n Z dJ5_getValue_6d5f1_0 rfl rfl ?_
  refine x_getf (ci := 1) (j := 0) (C := RJ4) (T := TJ4) (N := 4) Z inJ4g rfl (by decide) q621 rfl dJ5_getValue_6d5f1_1 (by assumption) rfl ?_
  exact x_aretA Z E (⟨rfl, rfl⟩) dJ5_getValue_6d5f1_4 (Nat.le_of_ble_eq_true rfl) (Nat.le_of_ble_eq_true rfl)
abbrev rmc_J5_isLatin1_aae02 : Room := { frames := 0, cells := 0, slots := 0, locals := 0 }
set_option maxRecDepth 100000 in
theorem c_J5_isLatin1_aae02 {l : Launch} {s0 : State} {G : gK} {w : wd} (h0 : gS0 s0) (htr : l.stackTraces = false) {a v : Nat} {ml n : Int} {m : Nat} {C : Int → Int} (hs : sbS G w a v ml n m C) : gM l s0 G yJ5_isLatin1_aae02 [Cond.code yJ5_isLatin1_aae02 cJ5_isLatin1_aae02 1 (some .boolean)] rmc_J5_isLatin1_aae02 [rv a] w (fun v w' => v = some (iv (b2 (true))) ∧ w' = w) (noX) := by
  refine g_of h0 htr (by decide +kernel) (Nat.le_of_ble_eq_true rfl) ?_
  intro b Z0 E
  have Z : gAm b l s0 G cJ5_isLatin1_aae02 RJ5 1 rmc_J5_isLatin1_aae02 := Z0
  refine x_el (L' := [(0, rv a)]) rfl ?_
  obtain ⟨hsa, hsv, hsn, hsm, hs9⟩ := id hs
  have hzCOMPACT_STRINGS := st_CS h0 Z
  refine x_gets Z hzCOMPACT_STRINGS q612 rfl dJ5_isLatin1_aae02_0 ?_
  refine x_if_eq Z 17 dJ5_isLatin1_aae02_3 (by decide) ⟨by omega, by omega⟩ (fun c3 => ?_) (fun c3 => ?_)
  · exact absurd c3 (by omega)
  ·
    refine x_aload_n Z dJ5_isLatin1_aae02_6 rfl rfl ?_
    refine x_getf (ci := 1) (j := 1) (C := RJ4) (T := TJ4) (N := 4) Z inJ4g rfl (by decide) q622 rfl dJ5_isLatin1_aae02_7 (by assumption) rfl ?_
    refine x_if_ne Z 17 dJ5_isLatin1_aae02_10 (by decide) ⟨by omega, by omega⟩ (fun c10 => ?_) (fun c10 => ?_)
    · exact absurd c10 (by omega)
    ·
      refine x_ib true Z dJ5_isLatin1_aae02_13 (by decide) ?_
      refine x_goto Z 18 dJ5_isLatin1_aae02_14 (by decide) ?_
      exact x_zret Z E (⟨rfl, rfl⟩) dJ5_isLatin1_aae02_18 (Nat.le_of_ble_eq_true rfl) (Nat.le_of_ble_eq_true rfl)
abbrev rmc_J1_canEncode_fc78d : Room := { frames := 0, cells := 0, slots := 0, locals := 0 }
set_option maxRecDepth 100000 in
theorem c_J1_canEncode_fc78d {l : Launch} {s0 : State} {G : gK} {w : wd} (h0 : gS0 s0) (htr : l.stackTraces = false) {c : Int} (h1 : 0 ≤ c) (h2 : c ≤ 255) : gM l s0 G yJ1_canEncode_fc78d [Cond.code yJ1_canEncode_fc78d cJ1_canEncode_fc78d 1 (some .boolean)] rmc_J1_canEncode_fc78d [iv c] w (fun v w' => v = some (iv (b2 (true))) ∧ w' = w) (noX) := by
  refine g_of h0 htr (by decide +kernel) (Nat.le_of_ble_eq_true rfl) ?_
  intro b Z0 E
  have Z : gAm b l s0 G cJ1_canEncode_fc78d RJ1 1 rmc_J1_canEncode_fc78d := Z0
  refine x_el (L' := [(0, iv c)]) rfl ?_
  refine x_iload_n Z dJ1_canEncode_fc78d_0 rfl rfl ?_
  refine x_sipush Z dJ1_canEncode_fc78d_1 (by decide +kernel) ?_
  refine x_icmp_gt Z 11 dJ1_canEncode_fc78d_4 (by decide) ⟨by omega, by omega⟩ ⟨by omega, by omega⟩ (fun c4 => ?_) (fun c4 => ?_)
  · exact absurd c4 (by omega)
  ·
    refine x_ib true Z dJ1_canEncode_fc78d_7 (by decide) ?_
    refine x_goto Z 12 dJ1_canEncode_fc78d_8 (by decide) ?_
    exact x_zret Z E (⟨rfl, rfl⟩) dJ1_canEncode_fc78d_12 (Nat.le_of_ble_eq_true rfl) (Nat.le_of_ble_eq_true rfl)
abbrev rmc_J8_newLength_cabcc : Room := { frames := 1, cells := 0, slots := 0, locals := 40 }
set_option maxRecDepth 100000 in
theorem c_J8_newLength_cabcc {l : Launch} {s0 : State} {G : gK} {w : wd} (h0 : gS0 s0) (htr : l.stackTraces = false) {x y z : Int} (h1 : 0 ≤ x ∧ x ≤ 1000) (h2 : 0 ≤ y ∧ y ≤ 1000) (h3 : 1 ≤ z ∧ z ≤ 1000) : gM l s0 G yJ8_newLength_cabcc [Cond.code yJ8_newLength_cabcc cJ8_newLength_cabcc 4 (some .int)] rmc_J8_newLength_cabcc [iv x, iv y, iv z] w (fun v w' => v = some (iv (x + (if y < z then z else y))) ∧ w' = w) (noX) := by
  refine g_of h0 htr (by decide +kernel) (Nat.le_of_ble_eq_true rfl) ?_
  intro b Z0 E
  have Z : gAm b l s0 G cJ8_newLength_cabcc RJ8 4 rmc_J8_newLength_cabcc := Z0
  refine x_el (L' := [(0, iv x), (1, iv y), (2, iv z)]) rfl ?_
  refine x_iload_n Z dJ8_newLength_cabcc_0 rfl rfl ?_
  refine x_iload_n Z dJ8_newLength_cabcc_1 rfl rfl ?_
  refine x_iload_n Z dJ8_newLength_cabcc_2 rfl rfl ?_
  refine x_mmax Z q662 q663 q51 q664 dJ8_newLength_cabcc_3 ⟨by omega, by omega⟩ ⟨by omega, by omega⟩ (Nat.le_of_ble_eq_true rfl) (Nat.le_of_ble_eq_true rfl) (by exact Nat.le_of_ble_eq_true rfl) (by exact Nat.le_of_ble_eq_true rfl) ?_
  refine x_iadd Z dJ8_newLength_cabcc_6 ?_
  refine x_istore_n (L' := [(3, _), (0, _), (1, _), (2, _)]) Z dJ8_newLength_cabcc_7 rfl (Nat.le_of_ble_eq_true rfl) rfl ?_
  refine x_iconst Z dJ8_newLength_cabcc_8 ?_
  refine x_iload_n Z dJ8_newLength_cabcc_9 rfl rfl ?_
  refine x_icmp_ge Z 21 dJ8_newLength_cabcc_10 (by decide) ⟨by omega, by omega⟩ ⟨by omega, by omega⟩ (fun c10 => ?_) (fun c10 => ?_)
  · exact absurd c10 (by omega)
  ·
    refine x_iload_n Z dJ8_newLength_cabcc_13 rfl rfl ?_
    refine x_ldc (z := 2147483639) Z q665 (by decide +kernel) dJ8_newLength_cabcc_14 ?_
    refine x_icmp_gt Z 21 dJ8_newLength_cabcc_16 (by decide) ⟨by omega, by omega⟩ ⟨by omega, by omega⟩ (fun c16 => ?_) (fun c16 => ?_)
    · exact absurd c16 (by omega)
    ·
      refine x_iload_n Z dJ8_newLength_cabcc_19 rfl rfl ?_
      exact x_iret Z E (⟨rfl, rfl⟩) dJ8_newLength_cabcc_20 (Nat.le_of_ble_eq_true rfl) (Nat.le_of_ble_eq_true rfl)
abbrev rmc_J5_newCapacity_0f7a4 : Room := { frames := 6, cells := 1, slots := 6, locals := 100 }
set_option maxRecDepth 100000 in
theorem c_J5_newCapacity_0f7a4 {l : Launch} {s0 : State} {G : gK} {w : wd} (h0 : gS0 s0) (htr : l.stackTraces = false) {a v : Nat} {ml n : Int} {m : Nat} {C : Int → Int} {q : Int} (hs : sbS G w a v ml n m C) (h1 : (m : Int) < q) (h2 : q ≤ 131) : gM l s0 G yJ5_newCapacity_0f7a4 [Cond.code yJ5_newCapacity_0f7a4 cJ5_newCapacity_0f7a4 6 (some .int)] rmc_J5_newCapacity_0f7a4 [rv a, iv q] w (fun v w' => v = some (iv (((m : Int) + (if q - (m : Int) < (m : Int) + 2 then (m : Int) + 2 else q - (m : Int))))) ∧ w' = w) (noX) := by
  refine g_of h0 htr (by decide +kernel) (Nat.le_of_ble_eq_true rfl) ?_
  intro b Z0 E
  have Z : gAm b l s0 G cJ5_newCapacity_0f7a4 RJ5 6 rmc_J5_newCapacity_0f7a4 := Z0
  refine x_el (L' := [(0, rv a), (1, iv q)]) rfl ?_
  obtain ⟨hsa, hsv, hsn, hsm, hs9⟩ := id hs
  refine x_aload_n Z dJ5_newCapacity_0f7a4_0 rfl rfl ?_
  refine x_getf (ci := 1) (j := 0) (C := RJ4) (T := TJ4) (N := 4) Z inJ4g rfl (by decide) q621 rfl dJ5_newCapacity_0f7a4_1 (by assumption) rfl ?_
  refine x_alenB Z dJ5_newCapacity_0f7a4_4 (by assumption) ?_
  refine x_istore_n (L' := [(2, _), (0, _), (1, _)]) Z dJ5_newCapacity_0f7a4_5 rfl (Nat.le_of_ble_eq_true rfl) rfl ?_
  refine x_iload_n Z dJ5_newCapacity_0f7a4_6 rfl rfl ?_
  refine x_aload_n Z dJ5_newCapacity_0f7a4_7 rfl rfl ?_
  refine x_getf (ci := 1) (j := 1) (C := RJ4) (T := TJ4) (N := 4) Z inJ4g rfl (by decide) q622 rfl dJ5_newCapacity_0f7a4_8 (by assumption) rfl ?_
  refine x_ishl Z dJ5_newCapacity_0f7a4_11 ?_
  refine x_tp (bShl0 ⟨by omega, by omega⟩) ?_
  refine x_istore_n (L' := [(3, _), (2, _), (0, _), (1, _)]) Z dJ5_newCapacity_0f7a4_12 rfl (Nat.le_of_ble_eq_true rfl) rfl ?_
  refine x_iload_n Z dJ5_newCapacity_0f7a4_13 rfl rfl ?_
  refine x_iload_n Z dJ5_newCapacity_0f7a4_14 rfl rfl ?_
  refine x_isub Z dJ5_newCapacity_0f7a4_15 ?_
  refine x_istore (L' := [(4, _), (3, _), (2, _), (0, _), (1, _)]) Z dJ5_newCapacity_0f7a4_16 (Nat.le_of_ble_eq_true rfl) rfl ?_
  refine x_iload_n Z dJ5_newCapacity_0f7a4_18 rfl rfl ?_
  refine x_iload Z dJ5_newCapacity_0f7a4_19 rfl ?_
  refine x_iload_n Z dJ5_newCapacity_0f7a4_21 rfl rfl ?_
  refine x_iconst Z dJ5_newCapacity_0f7a4_22 ?_
  refine x_aload_n Z dJ5_newCapacity_0f7a4_23 rfl rfl ?_
  refine x_getf (ci := 1) (j := 1) (C := RJ4) (T := TJ4) (N := 4) Z inJ4g rfl (by decide) q622 rfl dJ5_newCapacity_0f7a4_24 (by assumption) rfl ?_
  refine x_ishl Z dJ5_newCapacity_0f7a4_27 ?_
  refine x_tp (y := 2) (bShl0 ⟨by omega, by omega⟩) ?_
  refine x_iadd Z dJ5_newCapacity_0f7a4_28 ?_
  refine x_callS Z okJ8_newLength_cabcc q659 q660 dJ5_newCapacity_0f7a4_29 (c_J8_newLength_cabcc h0 htr (by omega) (by omega) (by omega)) ⟨Nat.le_of_ble_eq_true rfl, Nat.le_of_ble_eq_true rfl, Nat.le_of_ble_eq_true rfl, Nat.le_of_ble_eq_true rfl⟩ rfl rfl (Nat.le_of_ble_eq_true rfl) (fun v9 w9 hR => ?_)
  obtain ⟨rfl, e9⟩ := hR
  refine x_ew e9 ?_
  simp only [Option.toList_some, Option.toList_none, List.cons_append, List.nil_append]
  refine x_istore (L' := [(5, _), (4, _), (3, _), (2, _), (0, _), (1, _)]) Z dJ5_newCapacity_0f7a4_32 (Nat.le_of_ble_eq_true rfl) rfl ?_
  refine x_iload Z dJ5_newCapacity_0f7a4_34 rfl ?_
  refine x_ldc (z := 2147483647) Z q669 (by decide +kernel) dJ5_newCapacity_0f7a4_36 ?_
  refine x_icmp_ne Z 51 dJ5_newCapacity_0f7a4_38 (by decide) ⟨by omega, by omega⟩ ⟨by omega, by omega⟩ (fun c38 => ?_) (fun c38 => ?_)
  ·
    refine x_iload Z dJ5_newCapacity_0f7a4_51 rfl ?_
    refine x_aload_n Z dJ5_newCapacity_0f7a4_53 rfl rfl ?_
    refine x_getf (ci := 1) (j := 1) (C := RJ4) (T := TJ4) (N := 4) Z inJ4g rfl (by decide) q622 rfl dJ5_newCapacity_0f7a4_54 (by assumption) rfl ?_
    refine x_ishr Z dJ5_newCapacity_0f7a4_57 ?_
    refine x_tp (bShr0 ⟨by omega, by omega⟩) ?_
    exact x_iret Z E (⟨rfl, rfl⟩) dJ5_newCapacity_0f7a4_58 (Nat.le_of_ble_eq_true rfl) (Nat.le_of_ble_eq_true rfl)
  · exact absurd c38 (by omega)
abbrev rmc_J7_copyOf_9075b : Room := { frames := 1, cells := 1, slots := 262, locals := 40 }
set_option maxRecDepth 100000 in
theorem c_J7_copyOf_9075b {l : Launch} {s0 : State} {G : gK} {w : wd} (h0 : gS0 s0) (htr : l.stackTraces = false) {v m : Nat} {C : Int → Int} {q : Int} (hv : w v = some (eB G m (sgF C))) (h1 : (m : Int) < q) (h2 : q ≤ 262) : gM l s0 G yJ7_copyOf_9075b [Cond.code yJ7_copyOf_9075b cJ7_copyOf_9075b 3 (some (.array .byte))] rmc_J7_copyOf_9075b [rv v, iv q] w (fun v9 w' => ∃ q0 C', v9 = some (rv q0) ∧ w q0 = none ∧ w' q0 = some (eB G q.toNat (sgF C')) ∧ fr (fun _ => False) w w') (noX) := by
  refine g_of h0 htr (by decide +kernel) (Nat.le_of_ble_eq_true rfl) ?_
  intro b Z0 E
  have Z : gAm b l s0 G cJ7_copyOf_9075b RJ7 3 rmc_J7_copyOf_9075b := Z0
  refine x_el (L' := [(0, rv v), (1, iv q)]) rfl ?_
  refine x_iload_n Z dJ7_copyOf_9075b_0 rfl rfl ?_
  refine x_aload_n Z dJ7_copyOf_9075b_1 rfl rfl ?_
  refine x_alenB Z dJ7_copyOf_9075b_2 (by assumption) ?_
  refine x_icmp_ne Z 14 dJ7_copyOf_9075b_3 (by decide) ⟨by omega, by omega⟩ ⟨by omega, by omega⟩ (fun c3 => ?_) (fun c3 => ?_)
  ·
    refine x_iload_n Z dJ7_copyOf_9075b_14 rfl rfl ?_
    refine x_newB Z (q.toNat) q82 (by first | rfl | omega) (by omega) (Nat.le_of_ble_eq_true rfl) (by show 0 + _ ≤ 262; omega) dJ7_copyOf_9075b_15 (fun n15 hn15 => ?_)
    refine x_wd (k' := 1) (n' := 262) (by omega) (by omega) ?_
    refine x_gen fun w0 hw0 => ?_
    have hf : fr (fun _ => False) w w0 := by { rw [hw0]; exact fr.rf.new hn15 }
    have hA : w0 n15 = some (eB G q.toNat (sgF (fun _ => 0))) := by { rw [hw0, ws1_s, eB0] }
    have hv := hf.at (fun h => h) hv
    refine x_astore_n (L' := [(2, _), (0, _), (1, _)]) Z dJ7_copyOf_9075b_17 rfl (Nat.le_of_ble_eq_true rfl) rfl ?_
    refine x_aload_n Z dJ7_copyOf_9075b_18 rfl rfl ?_
    refine x_iconst Z dJ7_copyOf_9075b_19 ?_
    refine x_aload_n Z dJ7_copyOf_9075b_20 rfl rfl ?_
    refine x_iconst Z dJ7_copyOf_9075b_21 ?_
    refine x_aload_n Z dJ7_copyOf_9075b_22 rfl rfl ?_
    refine x_alenB Z dJ7_copyOf_9075b_23 (by assumption) ?_
    refine x_iload_n Z dJ7_copyOf_9075b_24 rfl rfl ?_
    refine x_mmin Z q680 q169 q51 q170 dJ7_copyOf_9075b_25 ⟨by omega, by omega⟩ ⟨by omega, by omega⟩ (Nat.le_of_ble_eq_true rfl) (Nat.le_of_ble_eq_true rfl) (by exact Nat.le_of_ble_eq_true rfl) (by exact Nat.le_of_ble_eq_true rfl) ?_
    refine x_tp (if_neg (by omega)) ?_
    refine x_acopy Z q681 q683 q682 q53 dJ7_copyOf_9075b_28 (by assumption) (by assumption) (by omega) (by omega) (by omega) (by omega) (by omega) (by omega) (by omega) (Nat.le_of_ble_eq_true rfl) (by exact Nat.le_of_ble_eq_true rfl) ?_
    refine x_aload_n Z dJ7_copyOf_9075b_31 rfl rfl ?_
    exact x_aretA Z E (⟨n15, _, rfl, hn15, ws1_s, hf.set0 hn15⟩) dJ7_copyOf_9075b_32 (Nat.le_of_ble_eq_true rfl) (Nat.le_of_ble_eq_true rfl)
  · exact absurd c3 (by omega)
abbrev rmc_J5_ensureCapacityInternal_d00df : Room := { frames := 7, cells := 2, slots := 268, locals := 125 }
set_option maxRecDepth 100000 in
theorem c_J5_ensureCapacityInternal_d00df {l : Launch} {s0 : State} {G : gK} {w : wd} (h0 : gS0 s0) (htr : l.stackTraces = false) {a v : Nat} {ml n : Int} {m : Nat} {C : Int → Int} {q : Int} (hs : sbS G w a v ml n m C) (h1 : 0 ≤ q) (h2 : q ≤ 131) : gM l s0 G yJ5_ensureCapacityInternal_d00df [Cond.code yJ5_ensureCapacityInternal_d00df cJ5_ensureCapacityInternal_d00df 3 none] rmc_J5_ensureCapacityInternal_d00df [rv a, iv q] w (fun v9 w' => v9 = none ∧ ∃ v' m' C', sbS G w' a v' ml n m' C' ∧ q ≤ m' ∧ (v' = v ∨ w v' = none) ∧ fr (fun x => x = a) w w') (noX) := by
  refine g_of h0 htr (by decide +kernel) (Nat.le_of_ble_eq_true rfl) ?_
  intro b Z0 E
  have Z : gAm b l s0 G cJ5_ensureCapacityInternal_d00df RJ5 3 rmc_J5_ensureCapacityInternal_d00df := Z0
  refine x_el (L' := [(0, rv a), (1, iv q)]) rfl ?_
  obtain ⟨hsa, hsv, hsn, hsm, hs9⟩ := id hs
  refine x_aload_n Z dJ5_ensureCapacityInternal_d00df_0 rfl rfl ?_
  refine x_getf (ci := 1) (j := 0) (C := RJ4) (T := TJ4) (N := 4) Z inJ4g rfl (by decide) q621 rfl dJ5_ensureCapacityInternal_d00df_1 (by assumption) rfl ?_
  refine x_alenB Z dJ5_ensureCapacityInternal_d00df_4 (by assumption) ?_
  refine x_aload_n Z dJ5_ensureCapacityInternal_d00df_5 rfl rfl ?_
  refine x_getf (ci := 1) (j := 1) (C := RJ4) (T := TJ4) (N := 4) Z inJ4g rfl (by decide) q622 rfl dJ5_ensureCapacityInternal_d00df_6 (by assumption) rfl ?_
  refine x_ishr Z dJ5_ensureCapacityInternal_d00df_9 ?_
  refine x_tp (bShr0 ⟨by omega, by omega⟩) ?_
  refine x_istore_n (L' := [(2, _), (0, _), (1, _)]) Z dJ5_ensureCapacityInternal_d00df_10 rfl (Nat.le_of_ble_eq_true rfl) rfl ?_
  refine x_iload_n Z dJ5_ensureCapacityInternal_d00df_11 rfl rfl ?_
  refine x_iload_n Z dJ5_ensureCapacityInternal_d00df_12 rfl rfl ?_
  refine x_isub Z dJ5_ensureCapacityInternal_d00df_13 ?_
  refine x_if_le Z 38 dJ5_ensureCapacityInternal_d00df_14 (by decide) ⟨by omega, by omega⟩ (fun c14 => ?_) (fun c14 => ?_)
  ·
    have hfin : v = v ∧ True := ⟨rfl, trivial⟩
    exact x_vret Z E (by first | exact ⟨rfl, v, m, C, hs, by omega, Or.inl rfl, fr.rf⟩ | exact ⟨rfl, q0, _, C9, ⟨ws1_s, (ws1_n hne.symm).trans hq1, by omega, by omega, by omega⟩, by omega, Or.inr hq0, (hf9.mono (fun _ h => h.elim)).set rfl⟩) dJ5_ensureCapacityInternal_d00df_38 (Nat.le_of_ble_eq_true rfl) (Nat.le_of_ble_eq_true rfl)
  ·
    refine x_aload_n Z dJ5_ensureCapacityInternal_d00df_17 rfl rfl ?_
    refine x_aload_n Z dJ5_ensureCapacityInternal_d00df_18 rfl rfl ?_
    refine x_getf (ci := 1) (j := 0) (C := RJ4) (T := TJ4) (N := 4) Z inJ4g rfl (by decide) q621 rfl dJ5_ensureCapacityInternal_d00df_19 (by assumption) rfl ?_
    refine x_aload_n Z dJ5_ensureCapacityInternal_d00df_22 rfl rfl ?_
    refine x_iload_n Z dJ5_ensureCapacityInternal_d00df_23 rfl rfl ?_
    refine x_callP (ci := 1) (C := RJ4) (T := TJ4) (N := 4) Z okJ5_newCapacity_0f7a4 q655 q1401 q657 q656 q687 rfl ⟨by decide, by decide⟩ rfl dJ5_ensureCapacityInternal_d00df_24 (c_J5_newCapacity_0f7a4 h0 htr hs (by omega) (by omega)) hs.1 ⟨Nat.le_of_ble_eq_true rfl, Nat.le_of_ble_eq_true rfl, Nat.le_of_ble_eq_true rfl, Nat.le_of_ble_eq_true rfl⟩ rfl rfl (Nat.le_of_ble_eq_true rfl) (fun v9 w9 hR => ?_)
    obtain ⟨rfl, e9⟩ := hR
    refine x_ew e9 ?_
    simp only [Option.toList_some, Option.toList_none, List.cons_append, List.nil_append]
    refine x_aload_n Z dJ5_ensureCapacityInternal_d00df_27 rfl rfl ?_
    refine x_getf (ci := 1) (j := 1) (C := RJ4) (T := TJ4) (N := 4) Z inJ4g rfl (by decide) q622 rfl dJ5_ensureCapacityInternal_d00df_28 (by assumption) rfl ?_
    refine x_ishl Z dJ5_ensureCapacityInternal_d00df_31 ?_
    refine x_tp (bShl0 ⟨by omega, by omega⟩) ?_
    refine x_callS Z okJ7_copyOf_9075b q670 q671 dJ5_ensureCapacityInternal_d00df_32 (c_J7_copyOf_9075b h0 htr hsv (by omega) (by omega)) ⟨Nat.le_of_ble_eq_true rfl, Nat.le_of_ble_eq_true rfl, Nat.le_of_ble_eq_true rfl, Nat.le_of_ble_eq_true rfl⟩ rfl rfl (Nat.le_of_ble_eq_true rfl) (fun v9 w9 hR => ?_)
    obtain ⟨q0, C9, rfl, hq0, hq1, hf9⟩ := hR
    simp only [Option.toList_some, Option.toList_none, List.cons_append, List.nil_append]
    have hsa9 := hf9.at (fun h => h) hsa
    have hne : a ≠ q0 := fun z => by { rw [z, hq0] at hsa; cases hsa }
    refine x_putf (ci := 1) (j := 0) (C := RJ4) (T := TJ4) (N := 4) (fs' := [_, _, _, _]) Z tyJ4 tyJ4_ok nmJ4 inJ4g rfl (by decide) q621 rfl rfl rfl rfl rfl dJ5_ensureCapacityInternal_d00df_35 (by assumption) (by exact Nat.le_of_ble_eq_true rfl) rfl ?_
    exact x_vret Z E (by first | exact ⟨rfl, v, m, C, hs, by omega, Or.inl rfl, fr.rf⟩ | exact ⟨rfl, q0, _, C9, ⟨ws1_s, (ws1_n hne.symm).trans hq1, by omega, by omega, by omega⟩, by omega, Or.inr hq0, (hf9.mono (fun _ h => h.elim)).set rfl⟩) dJ5_ensureCapacityInternal_d00df_38 (Nat.le_of_ble_eq_true rfl) (Nat.le_of_ble_eq_true rfl)
abbrev rmc_J5_append_3fe6f : Room := { frames := 8, cells := 2, slots := 268, locals := 147 }
set_option maxRecDepth 100000 in
theorem c_J5_append_3fe6f {l : Launch} {s0 : State} {G : gK} {w : wd} (h0 : gS0 s0) (htr : l.stackTraces = false) {a v : Nat} {ml n : Int} {m : Nat} {C : Int → Int} {c : Int} (hs : sbS G w a v ml n m C) (h1 : n + 1 ≤ 131) (h2 : 0 ≤ c) (h3 : c ≤ 255) : gM l s0 G yJ5_append_3fe6f [Cond.code yJ5_append_3fe6f cJ5_append_3fe6f 2 (some (.object "java/lang/AbstractStringBuilder"))] rmc_J5_append_3fe6f [rv a, iv c] w (fun v9 w' => v9 = some (rv a) ∧ sbW G w a v (n + 1) w') (noX) := by
  refine g_of h0 htr (by decide +kernel) (Nat.le_of_ble_eq_true rfl) ?_
  intro b Z0 E
  have Z : gAm b l s0 G cJ5_append_3fe6f RJ5 2 rmc_J5_append_3fe6f := Z0
  refine x_el (L' := [(0, rv a), (1, iv c)]) rfl ?_
  obtain ⟨hsa, hsv, hsn, hsm, hs9⟩ := id hs
  refine x_aload_n Z dJ5_append_3fe6f_0 rfl rfl ?_
  refine x_aload_n Z dJ5_append_3fe6f_1 rfl rfl ?_
  refine x_getf (ci := 1) (j := 3) (C := RJ4) (T := TJ4) (N := 4) Z inJ4g rfl (by decide) q624 rfl dJ5_append_3fe6f_2 (by assumption) rfl ?_
  refine x_iconst Z dJ5_append_3fe6f_5 ?_
  refine x_iadd Z dJ5_append_3fe6f_6 ?_
  refine x_callP (ci := 1) (C := RJ4) (T := TJ4) (N := 4) Z okJ5_ensureCapacityInternal_d00df q651 q1400 q653 q652 q687 rfl ⟨by decide, by decide⟩ rfl dJ5_append_3fe6f_7 (c_J5_ensureCapacityInternal_d00df h0 htr hs (by omega) (by omega)) hs.1 ⟨Nat.le_of_ble_eq_true rfl, Nat.le_of_ble_eq_true rfl, Nat.le_of_ble_eq_true rfl, Nat.le_of_ble_eq_true rfl⟩ rfl rfl (Nat.le_of_ble_eq_true rfl) (fun v9 w9 hR => ?_)
  obtain ⟨rfl, v5, m, C, hs5, hqm, hvv, hf5⟩ := hR
  obtain ⟨hsa, hsv, hsn, hsm, hs9⟩ := id hs5
  have hd5 := hs5.d
  simp only [Option.toList_some, Option.toList_none, List.cons_append, List.nil_append]
  refine x_aload_n Z dJ5_append_3fe6f_10 rfl rfl ?_
  refine x_callU (ci := 1) (C := RJ4) (T := TJ4) (N := 4) (owner := RJ5) Z okJ5_isLatin1_aae02 q684 q686 q685 q687 rfl ⟨by decide, by decide⟩ rfl dJ5_append_3fe6f_11 (c_J5_isLatin1_aae02 h0 htr hs5) hs5.1 ⟨Nat.le_of_ble_eq_true rfl, Nat.le_of_ble_eq_true rfl, Nat.le_of_ble_eq_true rfl, Nat.le_of_ble_eq_true rfl⟩ rfl rfl (Nat.le_of_ble_eq_true rfl) (fun v9 w9 hR => ?_)
  obtain ⟨rfl, e9⟩ := hR
  refine x_ew e9 ?_
  simp only [Option.toList_some, Option.toList_none, List.cons_append, List.nil_append]
  refine x_ifb_eq Z 45 dJ5_append_3fe6f_14 (by decide) (fun c14 => ?_) (fun c14 => ?_)
  · exact absurd c14 (by decide)
  ·
    refine x_iload_n Z dJ5_append_3fe6f_17 rfl rfl ?_
    refine x_callS Z okJ1_canEncode_fc78d q689 q690 dJ5_append_3fe6f_18 (c_J1_canEncode_fc78d h0 htr (by omega) (by omega)) ⟨Nat.le_of_ble_eq_true rfl, Nat.le_of_ble_eq_true rfl, Nat.le_of_ble_eq_true rfl, Nat.le_of_ble_eq_true rfl⟩ rfl rfl (Nat.le_of_ble_eq_true rfl) (fun v9 w9 hR => ?_)
    obtain ⟨rfl, e9⟩ := hR
    refine x_ew e9 ?_
    simp only [Option.toList_some, Option.toList_none, List.cons_append, List.nil_append]
    refine x_ifb_eq Z 45 dJ5_append_3fe6f_21 (by decide) (fun c21 => ?_) (fun c21 => ?_)
    · exact absurd c21 (by decide)
    ·
      refine x_aload_n Z dJ5_append_3fe6f_24 rfl rfl ?_
      refine x_getf (ci := 1) (j := 0) (C := RJ4) (T := TJ4) (N := 4) Z inJ4g rfl (by decide) q621 rfl dJ5_append_3fe6f_25 (by assumption) rfl ?_
      refine x_aload_n Z dJ5_append_3fe6f_28 rfl rfl ?_
      refine x_dup Z dJ5_append_3fe6f_29 rfl ?_
      refine x_getf (ci := 1) (j := 3) (C := RJ4) (T := TJ4) (N := 4) Z inJ4g rfl (by decide) q624 rfl dJ5_append_3fe6f_30 (by assumption) rfl ?_
      refine x_dup_x1 Z dJ5_append_3fe6f_33 rfl rfl ?_
      refine x_iconst Z dJ5_append_3fe6f_34 ?_
      refine x_iadd Z dJ5_append_3fe6f_35 ?_
      refine x_putf (ci := 1) (j := 3) (C := RJ4) (T := TJ4) (N := 4) (fs' := [_, _, _, _]) Z tyJ4 tyJ4_ok nmJ4 inJ4g rfl (by decide) q624 rfl rfl rfl rfl rfl dJ5_append_3fe6f_36 (by assumption) (by exact Nat.le_of_ble_eq_true rfl) rfl ?_
      refine x_gen fun w1 hw1 => ?_
      have ha1 : w1 a = some (eO 1 [rv v5, iv 0, iv ml, iv (n + 1)]) := by { rw [hw1, ws1_s] }
      have hv1 : w1 v5 = some (eB G m (sgF C)) := by { rw [hw1, ws1_n hd5.symm]; exact hsv }
      have hf1 : fr (fun x => x = a) w w1 := by { rw [hw1]; exact hf5.set rfl }
      refine x_iload_n Z dJ5_append_3fe6f_39 rfl rfl ?_
      refine x_i2b Z dJ5_append_3fe6f_40 ?_
      refine x_bast Z dJ5_append_3fe6f_41 (by assumption) (by omega) (by omega) (by omega) ?_
      rw [uF_sg rfl]
      refine x_gen fun w2 hw2 => ?_
      have hs2 : sbS G w2 a v5 ml (n + 1) m (uF C n (bB c)) := ⟨by rw [hw2, ws1_n hd5]; exact ha1, by rw [hw2, ws1_s], by omega, by omega, hs9⟩
      have hf2 : fr (sbP a v) w w2 := by { rw [hw2]; exact sbF2 hf1 hvv (fr.rf.set rfl) }
      refine x_goto Z 75 dJ5_append_3fe6f_42 (by decide) ?_
      refine x_aload_n Z dJ5_append_3fe6f_75 rfl rfl ?_
      exact x_aret Z E (⟨rfl, v5, ml, m, _, hs2, hvv, hf2⟩) dJ5_append_3fe6f_76 (Nat.le_of_ble_eq_true rfl) (Nat.le_of_ble_eq_true rfl)
abbrev rmc_J4_append_cf468 : Room := { frames := 9, cells := 2, slots := 268, locals := 168 }
set_option maxRecDepth 100000 in
theorem c_J4_append_cf468 {l : Launch} {s0 : State} {G : gK} {w : wd} (h0 : gS0 s0) (htr : l.stackTraces = false) {a v : Nat} {ml n : Int} {m : Nat} {C : Int → Int} {c : Int} (hs : sbS G w a v ml n m C) (h1 : n + 1 ≤ 131) (h2 : 0 ≤ c) (h3 : c ≤ 255) : gM l s0 G yJ4_append_cf468 [Cond.code yJ4_append_cf468 cJ4_append_cf468 2 (some (.object "java/lang/StringBuilder"))] rmc_J4_append_cf468 [rv a, iv c] w (fun v9 w' => v9 = some (rv a) ∧ sbW G w a v (n + 1) w') (noX) := by
  refine g_of h0 htr (by decide +kernel) (Nat.le_of_ble_eq_true rfl) ?_
  intro b Z0 E
  have Z : gAm b l s0 G cJ4_append_cf468 RJ4 2 rmc_J4_append_cf468 := Z0
  refine x_el (L' := [(0, rv a), (1, iv c)]) rfl ?_
  refine x_aload_n Z dJ4_append_cf468_0 rfl rfl ?_
  refine x_iload_n Z dJ4_append_cf468_1 rfl rfl ?_
  refine x_callSU (ci := 1) (C := RJ4) (T := TJ4) (N := 4) Z okJ5_append_3fe6f q648 q1399 q633 q649 (by decide) rfl dJ4_append_cf468_2 (c_J5_append_3fe6f h0 htr hs (by omega) (by omega) (by omega)) hs.1 ⟨Nat.le_of_ble_eq_true rfl, Nat.le_of_ble_eq_true rfl, Nat.le_of_ble_eq_true rfl, Nat.le_of_ble_eq_true rfl⟩ rfl rfl (Nat.le_of_ble_eq_true rfl) (fun v9 w9 hR => ?_)
  obtain ⟨rfl, hW⟩ := hR
  simp only [Option.toList_some, Option.toList_none, List.cons_append, List.nil_append]
  refine x_pop Z dJ4_append_cf468_5 rfl ?_
  refine x_aload_n Z dJ4_append_cf468_6 rfl rfl ?_
  exact x_aret Z E (⟨rfl, hW⟩) dJ4_append_cf468_7 (Nat.le_of_ble_eq_true rfl) (Nat.le_of_ble_eq_true rfl)
abbrev rmc_J6_stringSize_0f7a4 : Room := { frames := 0, cells := 0, slots := 0, locals := 0 }
set_option maxRecDepth 100000 in
theorem c_J6_stringSize_0f7a4 {l : Launch} {s0 : State} {G : gK} {w : wd} (h0 : gS0 s0) (htr : l.stackTraces = false) {x : Int} (h1 : 0 ≤ x) (h2 : x ≤ 255) : gM l s0 G yJ6_stringSize_0f7a4 [Cond.code yJ6_stringSize_0f7a4 cJ6_stringSize_0f7a4 4 (some .int)] rmc_J6_stringSize_0f7a4 [iv x] w (fun v w' => v = some (iv (dgs x)) ∧ w' = w) (noX) := by
  refine g_of h0 htr (by decide +kernel) (Nat.le_of_ble_eq_true rfl) ?_
  intro b Z0 E
  have Z : gAm b l s0 G cJ6_stringSize_0f7a4 RJ6 4 rmc_J6_stringSize_0f7a4 := Z0
  refine x_el (L' := [(0, iv x)]) rfl ?_
  refine x_iconst Z dJ6_stringSize_0f7a4_0 ?_
  refine x_istore_n (L' := [(1, _), (0, _)]) Z dJ6_stringSize_0f7a4_1 rfl (Nat.le_of_ble_eq_true rfl) rfl ?_
  refine x_iload_n Z dJ6_stringSize_0f7a4_2 rfl rfl ?_
  refine x_if_lt Z 11 dJ6_stringSize_0f7a4_3 (by decide) ⟨by omega, by omega⟩ (fun c3 => ?_) (fun c3 => ?_)
  · exact absurd c3 (by omega)
  ·
    refine x_iconst Z dJ6_stringSize_0f7a4_6 ?_
    refine x_istore_n (L' := [(1, _), (0, _)]) Z dJ6_stringSize_0f7a4_7 rfl (Nat.le_of_ble_eq_true rfl) rfl ?_
    refine x_iload_n Z dJ6_stringSize_0f7a4_8 rfl rfl ?_
    refine x_ineg Z dJ6_stringSize_0f7a4_9 ?_
    refine x_istore_n (L' := [(0, _), (1, _)]) Z dJ6_stringSize_0f7a4_10 rfl (Nat.le_of_ble_eq_true rfl) rfl ?_
    refine x_bipush Z dJ6_stringSize_0f7a4_11 (by decide +kernel) ?_
    refine x_istore_n (L' := [(2, _), (0, _), (1, _)]) Z dJ6_stringSize_0f7a4_13 rfl (Nat.le_of_ble_eq_true rfl) rfl ?_
    refine x_iconst Z dJ6_stringSize_0f7a4_14 ?_
    refine x_istore_n (L' := [(3, _), (2, _), (0, _), (1, _)]) Z dJ6_stringSize_0f7a4_15 rfl (Nat.le_of_ble_eq_true rfl) rfl ?_
    have loop16 : ∀ (fu : Nat) (i p : Int), 10 - i < (fu : Int) → ((i = 1 ∧ p = -10) ∨ (i = 2 ∧ p = -100 ∧ 10 ≤ x) ∨ (i = 3 ∧ p = -1000 ∧ 100 ≤ x)) → gX b s0 G (0) (0) 16 [(3, iv i), (2, iv p), (0, iv (-x)), (1, iv 0)] [] (w) := by
      intro fu; induction fu with
      | zero => intro i p hm hv; exact absurd hm (by omega)
      | succ fu ih16 =>
        intro i p hm hv
        refine x_iload_n Z dJ6_stringSize_0f7a4_16 rfl rfl ?_
        refine x_bipush Z dJ6_stringSize_0f7a4_17 (by decide +kernel) ?_
        refine x_icmp_ge Z 42 dJ6_stringSize_0f7a4_19 (by decide) ⟨by omega, by omega⟩ ⟨by omega, by omega⟩ (fun c19 => ?_) (fun c19 => ?_)
        · exact absurd c19 (by omega)
        ·
          refine x_iload_n Z dJ6_stringSize_0f7a4_22 rfl rfl ?_
          refine x_iload_n Z dJ6_stringSize_0f7a4_23 rfl rfl ?_
          refine x_icmp_le Z 31 dJ6_stringSize_0f7a4_24 (by decide) ⟨by omega, by omega⟩ ⟨by omega, by omega⟩ (fun c24 => ?_) (fun c24 => ?_)
          ·
            refine x_bipush Z dJ6_stringSize_0f7a4_31 (by decide +kernel) ?_
            refine x_iload_n Z dJ6_stringSize_0f7a4_33 rfl rfl ?_
            refine x_imul Z dJ6_stringSize_0f7a4_34 ?_
            refine x_istore_n (L' := [(2, _), (3, _), (0, _), (1, _)]) Z dJ6_stringSize_0f7a4_35 rfl (Nat.le_of_ble_eq_true rfl) rfl ?_
            refine x_iinc (L' := [(3, _), (2, _), (0, _), (1, _)]) Z dJ6_stringSize_0f7a4_36 rfl (Nat.le_of_ble_eq_true rfl) rfl ?_
            refine x_goto Z 16 dJ6_stringSize_0f7a4_39 (by decide) ?_
            exact ih16 (i + 1) (10 * p) (by omega) (by omega)
          ·
            refine x_iload_n Z dJ6_stringSize_0f7a4_27 rfl rfl ?_
            refine x_iload_n Z dJ6_stringSize_0f7a4_28 rfl rfl ?_
            refine x_iadd Z dJ6_stringSize_0f7a4_29 ?_
            exact x_iret Z E (⟨by unfold dgs; split <;> (try split) <;> exact congrArg some (congrArg iv (by omega)), rfl⟩) dJ6_stringSize_0f7a4_30 (Nat.le_of_ble_eq_true rfl) (Nat.le_of_ble_eq_true rfl)
    exact loop16 10 1 (-10) (by omega) (by omega)
abbrev rmc_J6_getChars_ba4f3 : Room := { frames := 0, cells := 0, slots := 0, locals := 0 }
set_option maxRecDepth 100000 in
theorem c_J6_getChars_ba4f3 {l : Launch} {s0 : State} {G : gK} {w : wd} (h0 : gS0 s0) (htr : l.stackTraces = false) {x p : Int} {v m : Nat} {C : Int → Int} (h1 : 0 ≤ x) (h2 : x ≤ 255) (h3 : dgs x ≤ p) (h4 : p ≤ m) (h5 : m ≤ 262) (hv : w v = some (eB G m (sgF C))) : gM l s0 G yJ6_getChars_ba4f3 [Cond.code yJ6_getChars_ba4f3 cJ6_getChars_ba4f3 7 (some .int)] rmc_J6_getChars_ba4f3 [iv x, iv p, rv v] w (fun v9 w' => ∃ C', v9 = some (iv (p - dgs x)) ∧ w' v = some (eB G m (sgF C')) ∧ fr (fun z => z = v) w w') (noX) := by
  refine g_of h0 htr (by decide +kernel) (Nat.le_of_ble_eq_true rfl) ?_
  intro b Z0 E
  have Z : gAm b l s0 G cJ6_getChars_ba4f3 RJ6 7 rmc_J6_getChars_ba4f3 := Z0
  refine x_el (L' := [(0, iv x), (1, iv p), (2, rv v)]) rfl ?_
  obtain ⟨tO, hzDigitOnes, htDO⟩ := st_DO h0 Z
  obtain ⟨tT, hzDigitTens, htDT⟩ := st_DT h0 Z
  have hv0 := hv
  refine x_iload_n Z dJ6_getChars_ba4f3_0 rfl rfl ?_
  refine x_istore (L' := [(5, _), (0, _), (1, _), (2, _)]) Z dJ6_getChars_ba4f3_1 (Nat.le_of_ble_eq_true rfl) rfl ?_
  refine x_iload_n Z dJ6_getChars_ba4f3_3 rfl rfl ?_
  refine x_if_ge Z 11 dJ6_getChars_ba4f3_4 (by decide) ⟨by omega, by omega⟩ (fun c4 => ?_) (fun c4 => ?_)
  ·
    refine x_ib false Z dJ6_getChars_ba4f3_11 (by decide) ?_
    refine x_istore (L' := [(6, _), (5, _), (0, _), (1, _), (2, _)]) Z dJ6_getChars_ba4f3_12 (Nat.le_of_ble_eq_true rfl) rfl ?_
    refine x_iload Z dJ6_getChars_ba4f3_14 rfl ?_
    refine x_ifb_ne Z 22 dJ6_getChars_ba4f3_16 (by decide) (fun c16 => ?_) (fun c16 => ?_)
    · exact absurd c16 (by decide)
    ·
      refine x_iload_n Z dJ6_getChars_ba4f3_19 rfl rfl ?_
      refine x_ineg Z dJ6_getChars_ba4f3_20 ?_
      refine x_istore_n (L' := [(0, _), (6, _), (5, _), (1, _), (2, _)]) Z dJ6_getChars_ba4f3_21 rfl (Nat.le_of_ble_eq_true rfl) rfl ?_
      have loop22 : ∀ (fu : Nat) (y q : Int) (C0 : Int → Int) (w0 : wd), y < (fu : Int) → (0 ≤ y ∧ y ≤ 255 ∧ dgs y ≤ q ∧ q ≤ m ∧ q - dgs y = p - dgs x ∧ w0 v = some (eB G m (sgF C0)) ∧ fr (fun z => z = v) w w0) → gX b s0 G (0) (0) 22 [(0, iv (-y)), (5, iv q), (6, iv (b2 false)), (1, iv p), (2, rv v)] [] (w0) := by
        intro fu; induction fu with
        | zero => intro y q C0 w0 hm hv; exact absurd hm (by omega)
        | succ fu ih22 =>
          intro y q C0 w0 hm hv
          obtain ⟨hy0, hy1, hdq, hqm, hpe, hv, hf⟩ := hv
          have hdy := dgs_in y
          refine x_iload_n Z dJ6_getChars_ba4f3_22 rfl rfl ?_
          refine x_bipush Z dJ6_getChars_ba4f3_23 (by decide +kernel) ?_
          refine x_icmp_gt Z 72 dJ6_getChars_ba4f3_25 (by decide) ⟨by omega, by omega⟩ ⟨by omega, by omega⟩ (fun c25 => ?_) (fun c25 => ?_)
          ·
            have hy9 : y ≤ 99 := by omega
            refine x_aload_n Z dJ6_getChars_ba4f3_72 rfl rfl ?_
            refine x_iinc (L' := [(5, _), (0, _), (6, _), (1, _), (2, _)]) Z dJ6_getChars_ba4f3_73 rfl (Nat.le_of_ble_eq_true rfl) rfl ?_
            refine x_iload Z dJ6_getChars_ba4f3_76 rfl ?_
            refine x_gets Z hzDigitOnes q750 rfl dJ6_getChars_ba4f3_78 ?_
            refine x_iload_n Z dJ6_getChars_ba4f3_81 rfl rfl ?_
            refine x_ineg Z dJ6_getChars_ba4f3_82 ?_
            refine x_tb Z htDO (by decide) (by omega) (by omega) dJ6_getChars_ba4f3_83 ?_
            refine x_bast Z dJ6_getChars_ba4f3_84 (by assumption) (by omega) (by omega) (by omega) ?_
            rw [uF_sg rfl]
            refine x_gen fun w84 hw84 => ?_
            obtain ⟨C84, hv84⟩ : ∃ D, w84 v = some (eB G m (sgF D)) := ⟨_, by rw [hw84, ws1_s]⟩
            have hf84 : fr (fun z => z = v) w w84 := by { rw [hw84]; exact (hf).set rfl }
            refine x_iload_n Z dJ6_getChars_ba4f3_85 rfl rfl ?_
            refine x_bipush Z dJ6_getChars_ba4f3_86 (by decide +kernel) ?_
            refine x_icmp_ge Z 104 dJ6_getChars_ba4f3_88 (by decide) ⟨by omega, by omega⟩ ⟨by omega, by omega⟩ (fun c88 => ?_) (fun c88 => ?_)
            ·
              refine x_iload Z dJ6_getChars_ba4f3_104 rfl ?_
              refine x_ifb_eq Z 118 dJ6_getChars_ba4f3_106 (by decide) (fun c106 => ?_) (fun c106 => ?_)
              ·
                refine x_iload Z dJ6_getChars_ba4f3_118 rfl ?_
                exact x_iret Z E (by first | exact ⟨_, by rw [← hpe, show dgs y = 2 from by unfold dgs; rw [if_neg (by omega), if_pos (by omega)]]; exact congrArg some (congrArg iv (by omega)), hv103, hf103⟩ | exact ⟨_, by rw [← hpe, show dgs y = 1 from by unfold dgs; rw [if_pos (by omega)]]; exact congrArg some (congrArg iv (by omega)), hv84, hf84⟩) dJ6_getChars_ba4f3_120 (Nat.le_of_ble_eq_true rfl) (Nat.le_of_ble_eq_true rfl)
              · exact absurd c106 (by decide)
            ·
              have hd2 : dgs y = 2 := by { unfold dgs; rw [if_neg (by omega), if_pos (by omega)] }
              refine x_aload_n Z dJ6_getChars_ba4f3_91 rfl rfl ?_
              refine x_iinc (L' := [(5, _), (0, _), (6, _), (1, _), (2, _)]) Z dJ6_getChars_ba4f3_92 rfl (Nat.le_of_ble_eq_true rfl) rfl ?_
              refine x_iload Z dJ6_getChars_ba4f3_95 rfl ?_
              refine x_gets Z hzDigitTens q752 rfl dJ6_getChars_ba4f3_97 ?_
              refine x_iload_n Z dJ6_getChars_ba4f3_100 rfl rfl ?_
              refine x_ineg Z dJ6_getChars_ba4f3_101 ?_
              refine x_tb Z htDT (by decide) (by omega) (by omega) dJ6_getChars_ba4f3_102 ?_
              refine x_bast Z dJ6_getChars_ba4f3_103 (by assumption) (by omega) (by omega) (by omega) ?_
              rw [uF_sg rfl]
              refine x_gen fun w103 hw103 => ?_
              obtain ⟨C103, hv103⟩ : ∃ D, w103 v = some (eB G m (sgF D)) := ⟨_, by rw [hw103, ws1_s]⟩
              have hf103 : fr (fun z => z = v) w w103 := by { rw [hw103]; exact (hf84).set rfl }
              refine x_iload Z dJ6_getChars_ba4f3_104 rfl ?_
              refine x_ifb_eq Z 118 dJ6_getChars_ba4f3_106 (by decide) (fun c106 => ?_) (fun c106 => ?_)
              ·
                refine x_iload Z dJ6_getChars_ba4f3_118 rfl ?_
                exact x_iret Z E (by first | exact ⟨_, by rw [← hpe, show dgs y = 2 from by unfold dgs; rw [if_neg (by omega), if_pos (by omega)]]; exact congrArg some (congrArg iv (by omega)), hv103, hf103⟩ | exact ⟨_, by rw [← hpe, show dgs y = 1 from by unfold dgs; rw [if_pos (by omega)]]; exact congrArg some (congrArg iv (by omega)), hv84, hf84⟩) dJ6_getChars_ba4f3_120 (Nat.le_of_ble_eq_true rfl) (Nat.le_of_ble_eq_true rfl)
              · exact absurd c106 (by decide)
          ·
            have hy9 : 100 ≤ y := by omega
            have hdh := dgs_h hy9 (by omega)
            have hdz := dgs_in (y / 100)
            refine x_iload_n Z dJ6_getChars_ba4f3_28 rfl rfl ?_
            refine x_bipush Z dJ6_getChars_ba4f3_29 (by decide +kernel) ?_
            refine x_idiv Z dJ6_getChars_ba4f3_31 ⟨by omega, by omega⟩ (by omega) ?_
            refine x_tp (bDiv100 (by omega) (by omega)) ?_
            refine x_istore_n (L' := [(3, _), (0, _), (5, _), (6, _), (1, _), (2, _)]) Z dJ6_getChars_ba4f3_32 rfl (Nat.le_of_ble_eq_true rfl) rfl ?_
            refine x_iload_n Z dJ6_getChars_ba4f3_33 rfl rfl ?_
            refine x_bipush Z dJ6_getChars_ba4f3_34 (by decide +kernel) ?_
            refine x_imul Z dJ6_getChars_ba4f3_36 ?_
            refine x_iload_n Z dJ6_getChars_ba4f3_37 rfl rfl ?_
            refine x_isub Z dJ6_getChars_ba4f3_38 ?_
            refine x_istore (L' := [(4, _), (3, _), (0, _), (5, _), (6, _), (1, _), (2, _)]) Z dJ6_getChars_ba4f3_39 (Nat.le_of_ble_eq_true rfl) rfl ?_
            refine x_iload_n Z dJ6_getChars_ba4f3_41 rfl rfl ?_
            refine x_istore_n (L' := [(0, _), (4, _), (3, _), (5, _), (6, _), (1, _), (2, _)]) Z dJ6_getChars_ba4f3_42 rfl (Nat.le_of_ble_eq_true rfl) rfl ?_
            refine x_aload_n Z dJ6_getChars_ba4f3_43 rfl rfl ?_
            refine x_iinc (L' := [(5, _), (0, _), (4, _), (3, _), (6, _), (1, _), (2, _)]) Z dJ6_getChars_ba4f3_44 rfl (Nat.le_of_ble_eq_true rfl) rfl ?_
            refine x_iload Z dJ6_getChars_ba4f3_47 rfl ?_
            refine x_gets Z hzDigitOnes q750 rfl dJ6_getChars_ba4f3_49 ?_
            refine x_iload Z dJ6_getChars_ba4f3_52 rfl ?_
            refine x_tb Z htDO (by decide) (by omega) (by omega) dJ6_getChars_ba4f3_54 ?_
            refine x_bast Z dJ6_getChars_ba4f3_55 (by assumption) (by omega) (by omega) (by omega) ?_
            rw [uF_sg rfl]
            refine x_gen fun w55 hw55 => ?_
            obtain ⟨C55, hv55⟩ : ∃ D, w55 v = some (eB G m (sgF D)) := ⟨_, by rw [hw55, ws1_s]⟩
            have hf55 : fr (fun z => z = v) w w55 := by { rw [hw55]; exact (hf).set rfl }
            refine x_aload_n Z dJ6_getChars_ba4f3_56 rfl rfl ?_
            refine x_iinc (L' := [(5, _), (0, _), (4, _), (3, _), (6, _), (1, _), (2, _)]) Z dJ6_getChars_ba4f3_57 rfl (Nat.le_of_ble_eq_true rfl) rfl ?_
            refine x_iload Z dJ6_getChars_ba4f3_60 rfl ?_
            refine x_gets Z hzDigitTens q752 rfl dJ6_getChars_ba4f3_62 ?_
            refine x_iload Z dJ6_getChars_ba4f3_65 rfl ?_
            refine x_tb Z htDT (by decide) (by omega) (by omega) dJ6_getChars_ba4f3_67 ?_
            refine x_bast Z dJ6_getChars_ba4f3_68 (by assumption) (by omega) (by omega) (by omega) ?_
            rw [uF_sg rfl]
            refine x_gen fun w68 hw68 => ?_
            obtain ⟨C68, hv68⟩ : ∃ D, w68 v = some (eB G m (sgF D)) := ⟨_, by rw [hw68, ws1_s]⟩
            have hf68 : fr (fun z => z = v) w w68 := by { rw [hw68]; exact (hf55).set rfl }
            refine x_goto Z 22 dJ6_getChars_ba4f3_69 (by decide) ?_
            refine x_sub [1, 0, 4, 5, 6] rfl ?_
            exact ih22 (y / 100) (q + -1 + -1) C68 w68 (by omega) ⟨by omega, by omega, by omega, by omega, by omega, hv68, hf68⟩
      refine x_sub [0, 2, 1, 3, 4] rfl ?_
      exact loop22 256 x p C w (by omega) ⟨h1, h2, h3, h4, rfl, hv, fr.rf⟩
  · exact absurd c4 (by omega)
abbrev rmc_J5_append_c97b9 : Room := { frames := 8, cells := 2, slots := 268, locals := 147 }
set_option maxRecDepth 100000 in
theorem c_J5_append_c97b9 {l : Launch} {s0 : State} {G : gK} {w : wd} (h0 : gS0 s0) (htr : l.stackTraces = false) {a v : Nat} {ml n : Int} {m : Nat} {C : Int → Int} {x : Int} (hs : sbS G w a v ml n m C) (h1 : n + 3 ≤ 131) (h2 : 0 ≤ x) (h3 : x ≤ 255) : gM l s0 G yJ5_append_c97b9 [Cond.code yJ5_append_c97b9 cJ5_append_c97b9 4 (some (.object "java/lang/AbstractStringBuilder"))] rmc_J5_append_c97b9 [rv a, iv x] w (fun v9 w' => v9 = some (rv a) ∧ sbW G w a v (n + dgs x) w') (noX) := by
  refine g_of h0 htr (by decide +kernel) (Nat.le_of_ble_eq_true rfl) ?_
  intro b Z0 E
  have Z : gAm b l s0 G cJ5_append_c97b9 RJ5 4 rmc_J5_append_c97b9 := Z0
  refine x_el (L' := [(0, rv a), (1, iv x)]) rfl ?_
  obtain ⟨hsa, hsv, hsn, hsm, hs9⟩ := id hs
  have hdx := dgs_in x
  refine x_aload_n Z dJ5_append_c97b9_0 rfl rfl ?_
  refine x_getf (ci := 1) (j := 3) (C := RJ4) (T := TJ4) (N := 4) Z inJ4g rfl (by decide) q624 rfl dJ5_append_c97b9_1 (by assumption) rfl ?_
  refine x_istore_n (L' := [(2, _), (0, _), (1, _)]) Z dJ5_append_c97b9_4 rfl (Nat.le_of_ble_eq_true rfl) rfl ?_
  refine x_iload_n Z dJ5_append_c97b9_5 rfl rfl ?_
  refine x_iload_n Z dJ5_append_c97b9_6 rfl rfl ?_
  refine x_callS Z okJ6_stringSize_0f7a4 q744 q745 dJ5_append_c97b9_7 (c_J6_stringSize_0f7a4 h0 htr (by omega) (by omega)) ⟨Nat.le_of_ble_eq_true rfl, Nat.le_of_ble_eq_true rfl, Nat.le_of_ble_eq_true rfl, Nat.le_of_ble_eq_true rfl⟩ rfl rfl (Nat.le_of_ble_eq_true rfl) (fun v9 w9 hR => ?_)
  obtain ⟨rfl, e9⟩ := hR
  refine x_ew e9 ?_
  simp only [Option.toList_some, Option.toList_none, List.cons_append, List.nil_append]
  refine x_iadd Z dJ5_append_c97b9_10 ?_
  refine x_istore_n (L' := [(3, _), (2, _), (0, _), (1, _)]) Z dJ5_append_c97b9_11 rfl (Nat.le_of_ble_eq_true rfl) rfl ?_
  refine x_aload_n Z dJ5_append_c97b9_12 rfl rfl ?_
  refine x_iload_n Z dJ5_append_c97b9_13 rfl rfl ?_
  refine x_callP (ci := 1) (C := RJ4) (T := TJ4) (N := 4) Z okJ5_ensureCapacityInternal_d00df q651 q1400 q653 q652 q687 rfl ⟨by decide, by decide⟩ rfl dJ5_append_c97b9_14 (c_J5_ensureCapacityInternal_d00df h0 htr hs (by omega) (by omega)) hs.1 ⟨Nat.le_of_ble_eq_true rfl, Nat.le_of_ble_eq_true rfl, Nat.le_of_ble_eq_true rfl, Nat.le_of_ble_eq_true rfl⟩ rfl rfl (Nat.le_of_ble_eq_true rfl) (fun v9 w9 hR => ?_)
  obtain ⟨rfl, v5, m, C, hs5, hqm, hvv, hf5⟩ := hR
  obtain ⟨hsa, hsv, hsn, hsm, hs9⟩ := id hs5
  have hd5 := hs5.d
  simp only [Option.toList_some, Option.toList_none, List.cons_append, List.nil_append]
  refine x_aload_n Z dJ5_append_c97b9_17 rfl rfl ?_
  refine x_callU (ci := 1) (C := RJ4) (T := TJ4) (N := 4) (owner := RJ5) Z okJ5_isLatin1_aae02 q684 q686 q685 q687 rfl ⟨by decide, by decide⟩ rfl dJ5_append_c97b9_18 (c_J5_isLatin1_aae02 h0 htr hs5) hs5.1 ⟨Nat.le_of_ble_eq_true rfl, Nat.le_of_ble_eq_true rfl, Nat.le_of_ble_eq_true rfl, Nat.le_of_ble_eq_true rfl⟩ rfl rfl (Nat.le_of_ble_eq_true rfl) (fun v9 w9 hR => ?_)
  obtain ⟨rfl, e9⟩ := hR
  refine x_ew e9 ?_
  simp only [Option.toList_some, Option.toList_none, List.cons_append, List.nil_append]
  refine x_ifb_eq Z 37 dJ5_append_c97b9_21 (by decide) (fun c21 => ?_) (fun c21 => ?_)
  · exact absurd c21 (by decide)
  ·
    refine x_iload_n Z dJ5_append_c97b9_24 rfl rfl ?_
    refine x_iload_n Z dJ5_append_c97b9_25 rfl rfl ?_
    refine x_aload_n Z dJ5_append_c97b9_26 rfl rfl ?_
    refine x_getf (ci := 1) (j := 0) (C := RJ4) (T := TJ4) (N := 4) Z inJ4g rfl (by decide) q621 rfl dJ5_append_c97b9_27 (by assumption) rfl ?_
    refine x_callS Z okJ6_getChars_ba4f3 q747 q748 dJ5_append_c97b9_30 (c_J6_getChars_ba4f3 h0 htr (by omega) (by omega) (by omega) (by omega) (by omega) (by assumption)) ⟨Nat.le_of_ble_eq_true rfl, Nat.le_of_ble_eq_true rfl, Nat.le_of_ble_eq_true rfl, Nat.le_of_ble_eq_true rfl⟩ rfl rfl (Nat.le_of_ble_eq_true rfl) (fun v9 w9 hR => ?_)
    obtain ⟨C7, rfl, hv7, hf7⟩ := hR
    have ha7 := hf7.at hd5 hsa
    simp only [Option.toList_some, Option.toList_none, List.cons_append, List.nil_append]
    refine x_pop Z dJ5_append_c97b9_33 rfl ?_
    refine x_goto Z 48 dJ5_append_c97b9_34 (by decide) ?_
    refine x_aload_n Z dJ5_append_c97b9_48 rfl rfl ?_
    refine x_iload_n Z dJ5_append_c97b9_49 rfl rfl ?_
    refine x_putf (ci := 1) (j := 3) (C := RJ4) (T := TJ4) (N := 4) (fs' := [_, _, _, _]) Z tyJ4 tyJ4_ok nmJ4 inJ4g rfl (by decide) q624 rfl rfl rfl rfl rfl dJ5_append_c97b9_50 (by assumption) (by exact Nat.le_of_ble_eq_true rfl) rfl ?_
    have hs2 : sbS G (ws1 w9 a (eO 1 [rv v5, iv 0, iv ml, iv (n + dgs x)])) a v5 ml (n + dgs x) m C7 := ⟨ws1_s, (ws1_n hd5.symm).trans hv7, by omega, by omega, hs9⟩
    have hf2 : fr (sbP a v) w (ws1 w9 a (eO 1 [rv v5, iv 0, iv ml, iv (n + dgs x)])) := (sbF2 hf5 hvv hf7).set (Or.inl rfl)
    refine x_aload_n Z dJ5_append_c97b9_53 rfl rfl ?_
    exact x_aret Z E (⟨rfl, v5, ml, m, _, hs2, hvv, hf2⟩) dJ5_append_c97b9_54 (Nat.le_of_ble_eq_true rfl) (Nat.le_of_ble_eq_true rfl)
abbrev rmc_J4_append_bf812 : Room := { frames := 9, cells := 2, slots := 268, locals := 170 }
set_option maxRecDepth 100000 in
theorem c_J4_append_bf812 {l : Launch} {s0 : State} {G : gK} {w : wd} (h0 : gS0 s0) (htr : l.stackTraces = false) {a v : Nat} {ml n : Int} {m : Nat} {C : Int → Int} {x : Int} (hs : sbS G w a v ml n m C) (h1 : n + 3 ≤ 131) (h2 : 0 ≤ x) (h3 : x ≤ 255) : gM l s0 G yJ4_append_bf812 [Cond.code yJ4_append_bf812 cJ4_append_bf812 2 (some (.object "java/lang/StringBuilder"))] rmc_J4_append_bf812 [rv a, iv x] w (fun v9 w' => v9 = some (rv a) ∧ sbW G w a v (n + dgs x) w') (noX) := by
  refine g_of h0 htr (by decide +kernel) (Nat.le_of_ble_eq_true rfl) ?_
  intro b Z0 E
  have Z : gAm b l s0 G cJ4_append_bf812 RJ4 2 rmc_J4_append_bf812 := Z0
  refine x_el (L' := [(0, rv a), (1, iv x)]) rfl ?_
  refine x_aload_n Z dJ4_append_bf812_0 rfl rfl ?_
  refine x_iload_n Z dJ4_append_bf812_1 rfl rfl ?_
  refine x_callSU (ci := 1) (C := RJ4) (T := TJ4) (N := 4) Z okJ5_append_c97b9 q741 q1403 q633 q742 (by decide) rfl dJ4_append_bf812_2 (c_J5_append_c97b9 h0 htr hs (by omega) (by omega) (by omega)) hs.1 ⟨Nat.le_of_ble_eq_true rfl, Nat.le_of_ble_eq_true rfl, Nat.le_of_ble_eq_true rfl, Nat.le_of_ble_eq_true rfl⟩ rfl rfl (Nat.le_of_ble_eq_true rfl) (fun v9 w9 hR => ?_)
  obtain ⟨rfl, hW⟩ := hR
  simp only [Option.toList_some, Option.toList_none, List.cons_append, List.nil_append]
  refine x_pop Z dJ4_append_bf812_5 rfl ?_
  refine x_aload_n Z dJ4_append_bf812_6 rfl rfl ?_
  exact x_aret Z E (⟨rfl, hW⟩) dJ4_append_bf812_7 (Nat.le_of_ble_eq_true rfl) (Nat.le_of_ble_eq_true rfl)
abbrev rmc_J7_checkLength_df160 : Room := { frames := 0, cells := 0, slots := 0, locals := 0 }
set_option maxRecDepth 100000 in
theorem c_J7_checkLength_df160 {l : Launch} {s0 : State} {G : gK} {w : wd} (h0 : gS0 s0) (htr : l.stackTraces = false) {x y : Int} (h1 : 0 ≤ x ∧ x ≤ y ∧ y ≤ 1000) : gM l s0 G yJ7_checkLength_df160 [Cond.code yJ7_checkLength_df160 cJ7_checkLength_df160 2 none] rmc_J7_checkLength_df160 [iv x, iv y] w (fun v9 w' => v9 = none ∧ w' = w) (noX) := by
  refine g_of h0 htr (by decide +kernel) (Nat.le_of_ble_eq_true rfl) ?_
  intro b Z0 E
  have Z : gAm b l s0 G cJ7_checkLength_df160 RJ7 2 rmc_J7_checkLength_df160 := Z0
  refine x_el (L' := [(0, iv x), (1, iv y)]) rfl ?_
  refine x_iload_n Z dJ7_checkLength_df160_0 rfl rfl ?_
  refine x_iload_n Z dJ7_checkLength_df160_1 rfl rfl ?_
  refine x_icmp_ge Z 37 dJ7_checkLength_df160_2 (by decide) ⟨by omega, by omega⟩ ⟨by omega, by omega⟩ (fun c2 => ?_) (fun c2 => ?_)
  ·
    exact x_vret Z E (⟨rfl, rfl⟩) dJ7_checkLength_df160_37 (Nat.le_of_ble_eq_true rfl) (Nat.le_of_ble_eq_true rfl)
  · exact absurd c2 (by omega)
abbrev rmc_J7_copyOfRangeByte_39247 : Room := { frames := 1, cells := 1, slots := 262, locals := 40 }
set_option maxRecDepth 100000 in
theorem c_J7_copyOfRangeByte_39247 {l : Launch} {s0 : State} {G : gK} {w : wd} (h0 : gS0 s0) (htr : l.stackTraces = false) {v m : Nat} {C : Int → Int} {q : Int} (hv : w v = some (eB G m (sgF C))) (h1 : q ≤ (m : Int)) (h2 : 0 ≤ q) (h3 : m ≤ 262) : gM l s0 G yJ7_copyOfRangeByte_39247 [Cond.code yJ7_copyOfRangeByte_39247 cJ7_copyOfRangeByte_39247 5 (some (.array .byte))] rmc_J7_copyOfRangeByte_39247 [rv v, iv 0, iv q] w (fun v9 w' => ∃ q0 C', v9 = some (rv q0) ∧ w q0 = none ∧ w' q0 = some (eB G q.toNat (sgF C')) ∧ fr (fun _ => False) w w') (noX) := by
  refine g_of h0 htr (by decide +kernel) (Nat.le_of_ble_eq_true rfl) ?_
  intro b Z0 E
  have Z : gAm b l s0 G cJ7_copyOfRangeByte_39247 RJ7 5 rmc_J7_copyOfRangeByte_39247 := Z0
  refine x_el (L' := [(0, rv v), (1, iv 0), (2, iv q)]) rfl ?_
  refine x_iload_n Z dJ7_copyOfRangeByte_39247_0 rfl rfl ?_
  refine x_iload_n Z dJ7_copyOfRangeByte_39247_1 rfl rfl ?_
  refine x_callS Z okJ7_checkLength_df160 q797 q798 dJ7_copyOfRangeByte_39247_2 (c_J7_checkLength_df160 h0 htr ⟨by omega, by omega, by omega⟩) ⟨Nat.le_of_ble_eq_true rfl, Nat.le_of_ble_eq_true rfl, Nat.le_of_ble_eq_true rfl, Nat.le_of_ble_eq_true rfl⟩ rfl rfl (Nat.le_of_ble_eq_true rfl) (fun v9 w9 hR => ?_)
  obtain ⟨rfl, e9⟩ := hR
  refine x_ew e9 ?_
  simp only [Option.toList_some, Option.toList_none, List.cons_append, List.nil_append]
  refine x_iload_n Z dJ7_copyOfRangeByte_39247_5 rfl rfl ?_
  refine x_iload_n Z dJ7_copyOfRangeByte_39247_6 rfl rfl ?_
  refine x_isub Z dJ7_copyOfRangeByte_39247_7 ?_
  refine x_istore_n (L' := [(3, _), (0, _), (1, _), (2, _)]) Z dJ7_copyOfRangeByte_39247_8 rfl (Nat.le_of_ble_eq_true rfl) rfl ?_
  refine x_iload_n Z dJ7_copyOfRangeByte_39247_9 rfl rfl ?_
  refine x_newB Z (q.toNat) q82 (by first | rfl | omega) (by omega) (Nat.le_of_ble_eq_true rfl) (by show 0 + _ ≤ 262; omega) dJ7_copyOfRangeByte_39247_10 (fun n10 hn10 => ?_)
  refine x_wd (k' := 1) (n' := 262) (by omega) (by omega) ?_
  refine x_gen fun w0 hw0 => ?_
  have hf : fr (fun _ => False) w w0 := by { rw [hw0]; exact fr.rf.new hn10 }
  have hA : w0 n10 = some (eB G q.toNat (sgF (fun _ => 0))) := by { rw [hw0, ws1_s, eB0] }
  have hv := hf.at (fun h => h) hv
  refine x_astore (L' := [(4, _), (3, _), (0, _), (1, _), (2, _)]) Z dJ7_copyOfRangeByte_39247_12 (Nat.le_of_ble_eq_true rfl) rfl ?_
  refine x_aload_n Z dJ7_copyOfRangeByte_39247_14 rfl rfl ?_
  refine x_iload_n Z dJ7_copyOfRangeByte_39247_15 rfl rfl ?_
  refine x_aload Z dJ7_copyOfRangeByte_39247_16 rfl ?_
  refine x_iconst Z dJ7_copyOfRangeByte_39247_18 ?_
  refine x_aload_n Z dJ7_copyOfRangeByte_39247_19 rfl rfl ?_
  refine x_alenB Z dJ7_copyOfRangeByte_39247_20 (by assumption) ?_
  refine x_iload_n Z dJ7_copyOfRangeByte_39247_21 rfl rfl ?_
  refine x_isub Z dJ7_copyOfRangeByte_39247_22 ?_
  refine x_iload_n Z dJ7_copyOfRangeByte_39247_23 rfl rfl ?_
  refine x_mmin Z q680 q169 q51 q170 dJ7_copyOfRangeByte_39247_24 ⟨by omega, by omega⟩ ⟨by omega, by omega⟩ (Nat.le_of_ble_eq_true rfl) (Nat.le_of_ble_eq_true rfl) (by exact Nat.le_of_ble_eq_true rfl) (by exact Nat.le_of_ble_eq_true rfl) ?_
  refine x_tp (y := q) (by split <;> omega) ?_
  refine x_acopy Z q681 q683 q682 q53 dJ7_copyOfRangeByte_39247_27 (by assumption) (by assumption) (by omega) (by omega) (by omega) (by omega) (by omega) (by omega) (by omega) (Nat.le_of_ble_eq_true rfl) (by exact Nat.le_of_ble_eq_true rfl) ?_
  refine x_aload Z dJ7_copyOfRangeByte_39247_30 rfl ?_
  exact x_aretA Z E (⟨n10, _, rfl, hn10, ws1_s, hf.set0 hn10⟩) dJ7_copyOfRangeByte_39247_32 (Nat.le_of_ble_eq_true rfl) (Nat.le_of_ble_eq_true rfl)
abbrev rmc_J7_copyOfRange_39247 : Room := { frames := 2, cells := 1, slots := 262, locals := 64 }
set_option maxRecDepth 100000 in
theorem c_J7_copyOfRange_39247 {l : Launch} {s0 : State} {G : gK} {w : wd} (h0 : gS0 s0) (htr : l.stackTraces = false) {v m : Nat} {C : Int → Int} {q : Int} (hv : w v = some (eB G m (sgF C))) (h1 : q ≤ (m : Int)) (h2 : 0 ≤ q) (h3 : m ≤ 262) : gM l s0 G yJ7_copyOfRange_39247 [Cond.code yJ7_copyOfRange_39247 cJ7_copyOfRange_39247 3 (some (.array .byte))] rmc_J7_copyOfRange_39247 [rv v, iv 0, iv q] w (fun v9 w' => ∃ q0 C', v9 = some (rv q0) ∧ w q0 = none ∧ w' q0 = some (eB G q.toNat (sgF C')) ∧ fr (fun _ => False) w w') (noX) := by
  refine g_of h0 htr (by decide +kernel) (Nat.le_of_ble_eq_true rfl) ?_
  intro b Z0 E
  have Z : gAm b l s0 G cJ7_copyOfRange_39247 RJ7 3 rmc_J7_copyOfRange_39247 := Z0
  refine x_el (L' := [(0, rv v), (1, iv 0), (2, iv q)]) rfl ?_
  refine x_iload_n Z dJ7_copyOfRange_39247_0 rfl rfl ?_
  refine x_if_ne Z 10 dJ7_copyOfRange_39247_1 (by decide) ⟨by omega, by omega⟩ (fun c1 => ?_) (fun c1 => ?_)
  · exact absurd c1 (by omega)
  ·
    refine x_iload_n Z dJ7_copyOfRange_39247_4 rfl rfl ?_
    refine x_aload_n Z dJ7_copyOfRange_39247_5 rfl rfl ?_
    refine x_alenB Z dJ7_copyOfRange_39247_6 (by assumption) ?_
    refine x_icmp_eq Z 17 dJ7_copyOfRange_39247_7 (by decide) ⟨by omega, by omega⟩ ⟨by omega, by omega⟩ (fun c7 => ?_) (fun c7 => ?_)
    ·
      refine x_aload_n Z dJ7_copyOfRange_39247_17 rfl rfl ?_
      refine x_clone Z q673 q674 q675 q676 q677 q678 dJ7_copyOfRange_39247_18 (by assumption) (Nat.le_of_ble_eq_true rfl) (by exact Nat.le_of_ble_eq_true rfl) (Nat.le_of_ble_eq_true rfl) (by show 0 + _ ≤ 262; omega) (fun n18 hn18 => ?_)
      refine x_castB Z q679 dJ7_copyOfRange_39247_21 (by first | assumption | exact ws1_s) ?_
      refine x_wd (k' := 1) (n' := 262) (by omega) (by omega) ?_
      exact x_aretA Z E (⟨n18, C, rfl, hn18, by rw [ws1_s, show q.toNat = m by omega], fr.rf.new hn18⟩) dJ7_copyOfRange_39247_24 (Nat.le_of_ble_eq_true rfl) (Nat.le_of_ble_eq_true rfl)
    ·
      refine x_aload_n Z dJ7_copyOfRange_39247_10 rfl rfl ?_
      refine x_iload_n Z dJ7_copyOfRange_39247_11 rfl rfl ?_
      refine x_iload_n Z dJ7_copyOfRange_39247_12 rfl rfl ?_
      refine x_callS Z okJ7_copyOfRangeByte_39247 q794 q795 dJ7_copyOfRange_39247_13 (c_J7_copyOfRangeByte_39247 h0 htr (by assumption) (by omega) (by omega) (by omega)) ⟨Nat.le_of_ble_eq_true rfl, Nat.le_of_ble_eq_true rfl, Nat.le_of_ble_eq_true rfl, Nat.le_of_ble_eq_true rfl⟩ rfl rfl (Nat.le_of_ble_eq_true rfl) (fun v9 w9 hR => ?_)
      obtain ⟨q0, C9, rfl, hq0, hq1, hf9⟩ := hR
      simp only [Option.toList_some, Option.toList_none, List.cons_append, List.nil_append]
      exact x_aretA Z E (⟨q0, C9, rfl, hq0, hq1, hf9⟩) dJ7_copyOfRange_39247_16 (Nat.le_of_ble_eq_true rfl) (Nat.le_of_ble_eq_true rfl)
abbrev rmc_J0_init_db425 : Room := { frames := 3, cells := 1, slots := 262, locals := 86 }
set_option maxRecDepth 100000 in
theorem c_J0_init_db425 {l : Launch} {s0 : State} {G : gK} {w : wd} (h0 : gS0 s0) (htr : l.stackTraces = false) {q : Nat} {a v : Nat} {ml n : Int} {m : Nat} {C : Int → Int} (hq : w q = some (eO 0 [.null, iv 0, iv 0, iv 0])) (hs : sbS G w a v ml n m C) : gM l s0 G yJ0_init_db425 [Cond.code yJ0_init_db425 cJ0_init_db425 5 none] rmc_J0_init_db425 [rv q, rv a, .null] w (fun v9 w' => v9 = none ∧ fr (fun x => x = q) w w') (noX) := by
  refine g_of h0 htr (by decide +kernel) (Nat.le_of_ble_eq_true rfl) ?_
  intro b Z0 E
  have Z : gAm b l s0 G cJ0_init_db425 RJ0 5 rmc_J0_init_db425 := Z0
  refine x_el (L' := [(0, rv q), (1, rv a), (2, .null)]) rfl ?_
  obtain ⟨hsa, hsv, hsn, hsm, hs9⟩ := id hs
  have hzCOMPACT_STRINGS := st_CS h0 Z
  have hqa : q ≠ a := fun z => by { rw [z, hsa] at hq; cases hq }
  have hqv : q ≠ v := fun z => by { rw [z, hsv] at hq; cases hq }
  refine x_aload_n Z dJ0_init_db425_0 rfl rfl ?_
  refine x_objI Z q783 dJ0_init_db425_1 (Nat.le_of_ble_eq_true rfl) (Nat.le_of_ble_eq_true rfl) (Nat.le_of_ble_eq_true rfl) ?_
  refine x_aload_n Z dJ0_init_db425_4 rfl rfl ?_
  refine x_callU (ci := 1) (C := RJ4) (T := TJ4) (N := 4) (owner := RJ5) Z okJ5_getValue_6d5f1 q784 q786 q785 q787 rfl ⟨by decide, by decide⟩ rfl dJ0_init_db425_5 (c_J5_getValue_6d5f1 h0 htr hs) hs.1 ⟨Nat.le_of_ble_eq_true rfl, Nat.le_of_ble_eq_true rfl, Nat.le_of_ble_eq_true rfl, Nat.le_of_ble_eq_true rfl⟩ rfl rfl (Nat.le_of_ble_eq_true rfl) (fun v9 w9 hR => ?_)
  obtain ⟨rfl, e9⟩ := hR
  refine x_ew e9 ?_
  simp only [Option.toList_some, Option.toList_none, List.cons_append, List.nil_append]
  refine x_astore_n (L' := [(3, _), (0, _), (1, _), (2, _)]) Z dJ0_init_db425_8 rfl (Nat.le_of_ble_eq_true rfl) rfl ?_
  refine x_aload_n Z dJ0_init_db425_9 rfl rfl ?_
  refine x_callU2 (ci := 1) (C := RJ4) (T := TJ4) (N := 4) (owner := RJ5) Z okJ4_length_8abf5 q789 q1398 q638 q1404 rfl okJ5_length_8abf5 q642 ⟨by decide, by decide⟩ rfl dJ0_init_db425_10 (c_J4_length_8abf5 h0 htr hs) hs.1 ⟨Nat.le_of_ble_eq_true rfl, Nat.le_of_ble_eq_true rfl, Nat.le_of_ble_eq_true rfl, Nat.le_of_ble_eq_true rfl⟩ rfl rfl (Nat.le_of_ble_eq_true rfl) (fun v9 w9 hR => ?_)
  obtain ⟨rfl, e9⟩ := hR
  refine x_ew e9 ?_
  simp only [Option.toList_some, Option.toList_none, List.cons_append, List.nil_append]
  refine x_istore (L' := [(4, _), (3, _), (0, _), (1, _), (2, _)]) Z dJ0_init_db425_13 (Nat.le_of_ble_eq_true rfl) rfl ?_
  refine x_aload_n Z dJ0_init_db425_15 rfl rfl ?_
  refine x_callU (ci := 1) (C := RJ4) (T := TJ4) (N := 4) (owner := RJ5) Z okJ5_isLatin1_aae02 q790 q686 q685 q687 rfl ⟨by decide, by decide⟩ rfl dJ0_init_db425_16 (c_J5_isLatin1_aae02 h0 htr hs) hs.1 ⟨Nat.le_of_ble_eq_true rfl, Nat.le_of_ble_eq_true rfl, Nat.le_of_ble_eq_true rfl, Nat.le_of_ble_eq_true rfl⟩ rfl rfl (Nat.le_of_ble_eq_true rfl) (fun v9 w9 hR => ?_)
  obtain ⟨rfl, e9⟩ := hR
  refine x_ew e9 ?_
  simp only [Option.toList_some, Option.toList_none, List.cons_append, List.nil_append]
  refine x_ifb_eq Z 41 dJ0_init_db425_19 (by decide) (fun c19 => ?_) (fun c19 => ?_)
  · exact absurd c19 (by decide)
  ·
    refine x_aload_n Z dJ0_init_db425_22 rfl rfl ?_
    refine x_iconst Z dJ0_init_db425_23 ?_
    refine x_putfF (ci := 0) (j := 1) (C := RJ0) (T := TJ0) (N := 4) (fs' := [_, _, _, _]) Z tyJ0 tyJ0_ok nmJ0 inJ0g rfl (by decide) q870 rfl rfl E.2.2.2 rfl rfl nb0 (by decide +kernel) dJ0_init_db425_24 (by assumption) (by exact Nat.le_of_ble_eq_true rfl) rfl ?_
    refine x_ew (ws1_id hq) ?_
    refine x_aload_n Z dJ0_init_db425_27 rfl rfl ?_
    refine x_aload_n Z dJ0_init_db425_28 rfl rfl ?_
    refine x_iconst Z dJ0_init_db425_29 ?_
    refine x_iload Z dJ0_init_db425_30 rfl ?_
    refine x_callS Z okJ7_copyOfRange_39247 q791 q792 dJ0_init_db425_32 (c_J7_copyOfRange_39247 h0 htr hsv (by omega) (by omega) (by omega)) ⟨Nat.le_of_ble_eq_true rfl, Nat.le_of_ble_eq_true rfl, Nat.le_of_ble_eq_true rfl, Nat.le_of_ble_eq_true rfl⟩ rfl rfl (Nat.le_of_ble_eq_true rfl) (fun v9 w9 hR => ?_)
    obtain ⟨q0, C9, rfl, hq0, hq1, hf9⟩ := hR
    simp only [Option.toList_some, Option.toList_none, List.cons_append, List.nil_append]
    have hq9 := hf9.at (fun h => h) hq
    refine x_putfF (ci := 0) (j := 0) (C := RJ0) (T := TJ0) (N := 4) (fs' := [_, _, _, _]) Z tyJ0 tyJ0_ok nmJ0 inJ0g rfl (by decide) q869 rfl rfl E.2.2.2 rfl rfl rfl rfl dJ0_init_db425_35 (by assumption) (by exact Nat.le_of_ble_eq_true rfl) rfl ?_
    refine x_goto Z 97 dJ0_init_db425_38 (by decide) ?_
    exact x_vret Z E (⟨rfl, (hf9.mono (fun _ h => h.elim)).set rfl⟩) dJ0_init_db425_97 (Nat.le_of_ble_eq_true rfl) (Nat.le_of_ble_eq_true rfl)
abbrev rmc_J0_init_81219 : Room := { frames := 4, cells := 1, slots := 262, locals := 110 }
set_option maxRecDepth 100000 in
theorem c_J0_init_81219 {l : Launch} {s0 : State} {G : gK} {w : wd} (h0 : gS0 s0) (htr : l.stackTraces = false) {q : Nat} {a v : Nat} {ml n : Int} {m : Nat} {C : Int → Int} (hq : w q = some (eO 0 [.null, iv 0, iv 0, iv 0])) (hs : sbS G w a v ml n m C) : gM l s0 G yJ0_init_81219 [Cond.code yJ0_init_81219 cJ0_init_81219 2 none] rmc_J0_init_81219 [rv q, rv a] w (fun v9 w' => v9 = none ∧ fr (fun x => x = q) w w') (noX) := by
  refine g_of h0 htr (by decide +kernel) (Nat.le_of_ble_eq_true rfl) ?_
  intro b Z0 E
  have Z : gAm b l s0 G cJ0_init_81219 RJ0 2 rmc_J0_init_81219 := Z0
  refine x_el (L' := [(0, rv q), (1, rv a)]) rfl ?_
  refine x_aload_n Z dJ0_init_81219_0 rfl rfl ?_
  refine x_aload_n Z dJ0_init_81219_1 rfl rfl ?_
  refine x_anull Z dJ0_init_81219_2 ?_
  refine x_callI Z okJ0_init_db425 q780 q781 rfl dJ0_init_81219_3 (c_J0_init_db425 h0 htr hq hs) ⟨Nat.le_of_ble_eq_true rfl, Nat.le_of_ble_eq_true rfl, Nat.le_of_ble_eq_true rfl, Nat.le_of_ble_eq_true rfl⟩ rfl rfl (Nat.le_of_ble_eq_true rfl) (fun v9 w9 hR => ?_)
  obtain ⟨rfl, hf9⟩ := hR
  simp only [Option.toList_some, Option.toList_none, List.cons_append, List.nil_append]
  exact x_vret Z E (⟨rfl, hf9⟩) dJ0_init_81219_6 (Nat.le_of_ble_eq_true rfl) (Nat.le_of_ble_eq_true rfl)
abbrev rmc_J4_toString_0e30d : Room := { frames := 5, cells := 2, slots := 266, locals := 131 }
set_option maxRecDepth 100000 in
theorem c_J4_toString_0e30d {l : Launch} {s0 : State} {G : gK} {w : wd} (h0 : gS0 s0) (htr : l.stackTraces = false) {a v : Nat} {ml n : Int} {m : Nat} {C : Int → Int} (hs : sbS G w a v ml n m C) : gM l s0 G yJ4_toString_0e30d [Cond.code yJ4_toString_0e30d cJ4_toString_0e30d 1 (some (.object "java/lang/String"))] rmc_J4_toString_0e30d [rv a] w (fun v9 w' => ∃ q, v9 = some (rv q) ∧ w q = none ∧ fr (fun _ => False) w w') (noX) := by
  refine g_of h0 htr (by decide +kernel) (Nat.le_of_ble_eq_true rfl) ?_
  intro b Z0 E
  have Z : gAm b l s0 G cJ4_toString_0e30d RJ4 1 rmc_J4_toString_0e30d := Z0
  refine x_el (L' := [(0, rv a)]) rfl ?_
  refine x_new (ci := 0) (C := RJ0) (T := TJ0) (N := 4) (fs := [.null, iv 0, iv 0, iv 0]) Z tyJ0 tyJ0_ok inJ0g rfl q775 q776 q48 (fun j hj => by have h0 := hj; rcases (by omega : j = 0 ∨ j = 1 ∨ j = 2 ∨ j = 3) with rfl | rfl | rfl | rfl <;> (try rfl) <;> decide +kernel) (Nat.le_of_ble_eq_true rfl) (Nat.le_of_ble_eq_true rfl) dJ4_toString_0e30d_0 (fun n0 hn0 => ?_)
  refine x_gen fun w1 hw1 => ?_
  have hf1 : fr (fun _ => False) w w1 := by { rw [hw1]; exact fr.rf.new hn0 }
  have hs1 := sbS_fr hs hf1 (fun h => h) (fun h => h)
  have hq1 : w1 n0 = some (eO 0 [.null, iv 0, iv 0, iv 0]) := by { rw [hw1, ws1_s] }
  refine x_dup Z dJ4_toString_0e30d_3 rfl ?_
  refine x_aload_n Z dJ4_toString_0e30d_4 rfl rfl ?_
  refine x_callI Z okJ0_init_81219 q777 q778 rfl dJ4_toString_0e30d_5 (c_J0_init_81219 h0 htr hq1 hs1) ⟨Nat.le_of_ble_eq_true rfl, Nat.le_of_ble_eq_true rfl, Nat.le_of_ble_eq_true rfl, Nat.le_of_ble_eq_true rfl⟩ rfl rfl (Nat.le_of_ble_eq_true rfl) (fun v9 w9 hR => ?_)
  obtain ⟨rfl, hf9⟩ := hR
  simp only [Option.toList_some, Option.toList_none, List.cons_append, List.nil_append]
  exact x_aret Z E (⟨n0, rfl, hn0, fr.tr2 hf1 hn0 hf9⟩) dJ4_toString_0e30d_8 (Nat.le_of_ble_eq_true rfl) (Nat.le_of_ble_eq_true rfl)
