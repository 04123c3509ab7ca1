/-! sb1: walks, by program -/
theorem q46 : Cond.initialized RJ5 ∈ gT := gt_of 46 rfl rfl
theorem q50 : Cond.initialized RJ8 ∈ gT := gt_of 50 rfl rfl
theorem q52 : Cond.initialized RJ7 ∈ gT := gt_of 52 rfl rfl
theorem q53 : Cond.initialized RJ10 ∈ gT := gt_of 53 rfl rfl
set_option maxRecDepth 100000 in
theorem q608 : Cond.methodLink RJ4 1 yJ5_init_d00df ∈ gT := gt_of 608 rfl rfl
set_option maxRecDepth 100000 in
theorem q609 : Cond.instanceMethod yJ5_init_d00df ∈ gT := gt_of 609 rfl rfl
set_option maxRecDepth 100000 in
theorem q610 : Cond.code yJ5_init_d00df cJ5_init_d00df 2 none ∈ gT := gt_of 610 rfl rfl
set_option maxRecDepth 100000 in
theorem q611 : Cond.methodLink RJ5 3 objectInit ∈ gT := gt_of 611 rfl rfl
set_option maxRecDepth 100000 in
theorem q612 : Cond.fieldLink RJ5 18 "java/lang/String" "COMPACT_STRINGS" "Z" ∈ gT := gt_of 612 rfl rfl
set_option maxRecDepth 100000 in
theorem q621 : Cond.fieldLink RJ5 15 "java/lang/AbstractStringBuilder" "value" "[B" ∈ gT := gt_of 621 rfl rfl
set_option maxRecDepth 100000 in
theorem q622 : Cond.fieldLink RJ5 22 "java/lang/AbstractStringBuilder" "coder" "B" ∈ gT := gt_of 622 rfl rfl
set_option maxRecDepth 100000 in
theorem q624 : Cond.fieldLink RJ5 79 "java/lang/AbstractStringBuilder" "count" "I" ∈ gT := gt_of 624 rfl rfl
set_option maxRecDepth 100000 in
theorem q633 : Cond.superclass RJ4 RJ5 ∈ gT := gt_of 633 rfl rfl
set_option maxRecDepth 100000 in
theorem q641 : Cond.methodLink RJ4 343 yJ5_length_8abf5 ∈ gT := gt_of 641 rfl rfl
set_option maxRecDepth 100000 in
theorem q642 : Cond.instanceMethod yJ5_length_8abf5 ∈ gT := gt_of 642 rfl rfl
set_option maxRecDepth 100000 in
theorem q643 : Cond.code yJ5_length_8abf5 cJ5_length_8abf5 1 (some .int) ∈ gT := gt_of 643 rfl rfl
set_option maxRecDepth 100000 in
theorem q655 : Cond.methodLink RJ5 104 yJ5_newCapacity_0f7a4 ∈ gT := gt_of 655 rfl rfl
set_option maxRecDepth 100000 in
theorem q656 : Cond.privateMethod yJ5_newCapacity_0f7a4 ∈ lw_tbl := List.mem_of_getElem? (i := 656) rfl
set_option maxRecDepth 100000 in
theorem q657 : Cond.instanceMethod yJ5_newCapacity_0f7a4 ∈ gT := gt_of 657 rfl rfl
set_option maxRecDepth 100000 in
theorem q658 : Cond.code yJ5_newCapacity_0f7a4 cJ5_newCapacity_0f7a4 6 (some .int) ∈ gT := gt_of 658 rfl rfl
set_option maxRecDepth 100000 in
theorem q659 : Cond.methodLink RJ5 114 yJ8_newLength_cabcc ∈ gT := gt_of 659 rfl rfl
set_option maxRecDepth 100000 in
theorem q660 : Cond.static yJ8_newLength_cabcc ∈ gT := gt_of 660 rfl rfl
set_option maxRecDepth 100000 in
theorem q661 : Cond.code yJ8_newLength_cabcc cJ8_newLength_cabcc 4 (some .int) ∈ gT := gt_of 661 rfl rfl
set_option maxRecDepth 100000 in
theorem q662 : Cond.methodLink RJ8 194 yJ9_max_7cf53 ∈ gT := gt_of 662 rfl rfl
set_option maxRecDepth 100000 in
theorem q663 : Cond.static yJ9_max_7cf53 ∈ gT := gt_of 663 rfl rfl
set_option maxRecDepth 100000 in
theorem q664 : Cond.code yJ9_max_7cf53 cJ9_max_7cf53 2 (some .int) ∈ gT := gt_of 664 rfl rfl
set_option maxRecDepth 100000 in
theorem q665 : Cond.constant RJ8 200 2147483639 ∈ gT := gt_of 665 rfl rfl
set_option maxRecDepth 100000 in
theorem q669 : Cond.constant RJ5 39 2147483647 ∈ gT := gt_of 669 rfl rfl
set_option maxRecDepth 100000 in
theorem q670 : Cond.methodLink RJ5 108 yJ7_copyOf_9075b ∈ gT := gt_of 670 rfl rfl
set_option maxRecDepth 100000 in
theorem q671 : Cond.static yJ7_copyOf_9075b ∈ gT := gt_of 671 rfl rfl
set_option maxRecDepth 100000 in
theorem q672 : Cond.code yJ7_copyOf_9075b cJ7_copyOf_9075b 3 (some (.array .byte)) ∈ gT := gt_of 672 rfl rfl
set_option maxRecDepth 100000 in
theorem q680 : Cond.methodLink RJ7 304 yJ9_min_7cf53 ∈ gT := gt_of 680 rfl rfl
set_option maxRecDepth 100000 in
theorem q681 : Cond.methodLink RJ7 150 arraycopyName ∈ gT := gt_of 681 rfl rfl
set_option maxRecDepth 100000 in
theorem q682 : Cond.static arraycopyName ∈ gT := gt_of 682 rfl rfl
set_option maxRecDepth 100000 in
theorem q683 : Cond.native arraycopyName ∈ gT := gt_of 683 rfl rfl
set_option maxRecDepth 100000 in
theorem q687 : Cond.selects RJ4 yJ5_isLatin1_aae02 yJ5_isLatin1_aae02 ∈ gT := gt_of 687 rfl rfl
set_option maxRecDepth 100000 in
theorem q1394 : Cond.sameMethod RJ5 RJ5 "length" "()I" ∈ gT := gt_of 1394 rfl rfl
set_option maxRecDepth 100000 in
theorem q1397 : Cond.sameMethod RJ5 RJ5 "newCapacity" "(I)I" ∈ gT := gt_of 1397 rfl rfl
theorem okJ5_init_d00df : gOk yJ5_init_d00df cJ5_init_d00df 2 none 1 := ⟨q610, q46, ⟨by decide +kernel, by decide +kernel⟩, by decide +kernel⟩
theorem okJ5_length_8abf5 : gOk yJ5_length_8abf5 cJ5_length_8abf5 1 (some .int) 0 := ⟨q643, q46, ⟨by decide +kernel, by decide +kernel⟩, by decide +kernel⟩
theorem okJ8_newLength_cabcc : gOk yJ8_newLength_cabcc cJ8_newLength_cabcc 4 (some .int) 3 := ⟨q661, q50, ⟨by decide +kernel, by decide +kernel⟩, by decide +kernel⟩
theorem okJ5_newCapacity_0f7a4 : gOk yJ5_newCapacity_0f7a4 cJ5_newCapacity_0f7a4 6 (some .int) 1 := ⟨q658, q46, ⟨by decide +kernel, by decide +kernel⟩, by decide +kernel⟩
theorem okJ7_copyOf_9075b : gOk yJ7_copyOf_9075b cJ7_copyOf_9075b 3 (some (.array .byte)) 2 := ⟨q672, q52, ⟨by decide +kernel, by decide +kernel⟩, by decide +kernel⟩
set_option maxRecDepth 100000 in
theorem inJ4g : ∀ q ∈ u_ws RJ4 TJ4 4, q ∈ gT := by decide +kernel
set_option maxRecDepth 100000 in
theorem inJ0g : ∀ q ∈ u_ws RJ0 TJ0 4, q ∈ gT := by decide +kernel
abbrev rmc_J5_init_d00df : Room := { frames := 1, cells := 1, slots := 16, locals := 40 }
set_option maxRecDepth 100000 in
theorem c_J5_init_d00df {l : Launch} {s0 : State} {G : gK} {w : wd} (h0 : gS0 s0) (htr : l.stackTraces = false) {a : Nat} (ha : w a = some (eO 1 [.null, iv 0, iv 0, iv 0])) : gM l s0 G yJ5_init_d00df [Cond.code yJ5_init_d00df cJ5_init_d00df 2 none] rmc_J5_init_d00df [rv a, iv 16] w (fun v w' => v = none ∧ ∃ v0, sbS G w' a v0 0 0 16 (fun _ => 0) ∧ w v0 = none ∧ fr (fun x => x = a) w w') (noX) := by
  refine g_of h0 htr (by decide +kernel) (Nat.le_of_ble_eq_true rfl) ?_
  intro b Z0 E
  have Z : gAm b l s0 G cJ5_init_d00df RJ5 2 rmc_J5_init_d00df := Z0
  refine x_el (L' := [(0, rv a), (1, iv 16)]) rfl ?_
  have hzCOMPACT_STRINGS := st_CS h0 Z
  refine x_aload_n Z dJ5_init_d00df_0 rfl rfl ?_
  refine x_objI Z q611 dJ5_init_d00df_1 (Nat.le_of_ble_eq_true rfl) (Nat.le_of_ble_eq_true rfl) (Nat.le_of_ble_eq_true rfl) ?_
  refine x_gets Z hzCOMPACT_STRINGS q612 rfl dJ5_init_d00df_4 ?_
  refine x_if_eq Z 25 dJ5_init_d00df_7 (by decide) ⟨by omega, by omega⟩ (fun c7 => ?_) (fun c7 => ?_)
  · exact absurd c7 (by omega)
  ·
    refine x_aload_n Z dJ5_init_d00df_10 rfl rfl ?_
    refine x_iload_n Z dJ5_init_d00df_11 rfl rfl ?_
    refine x_newB Z (16) q82 (by first | rfl | omega) (by omega) (Nat.le_of_ble_eq_true rfl) (Nat.le_of_ble_eq_true rfl) dJ5_init_d00df_12 (fun n12 hn12 => ?_)
    refine x_gen fun w0 hw0 => ?_
    have hd : a ≠ n12 := fun z => by { rw [z, hn12] at ha; cases ha }
    have ha0 : w0 a = some (eO 1 [.null, iv 0, iv 0, iv 0]) := by { rw [hw0, ws1_n hd]; exact ha }
    have hv0 : w0 n12 = some (eB G 16 (sgF (fun _ => 0))) := by { rw [hw0, ws1_s, eB0] }
    have hf : fr (fun x => x = a) w w0 := by { rw [hw0]; exact fr.rf.new hn12 }
    refine x_putf (ci := 1) (j := 0) (C := RJ4) (T := TJ4) (N := 4) (fs' := [_, _, _, _]) Z tyJ4 tyJ4_ok nmJ4 inJ4g rfl (by decide) q621 rfl rfl rfl rfl rfl dJ5_init_d00df_14 (by assumption) (by exact Nat.le_of_ble_eq_true rfl) rfl ?_
    have hf := hf.set (e := eO 1 [rv n12, iv 0, iv 0, iv 0]) rfl
    refine x_gen fun w1 hw1 => ?_
    have ha1 : w1 a = some (eO 1 [rv n12, iv 0, iv 0, iv 0]) := by { rw [hw1, ws1_s] }
    have hv1 : w1 n12 = some (eB G 16 (sgF (fun _ => 0))) := by { rw [hw1, ws1_n hd.symm]; exact hv0 }
    rw [← hw1] at hf
    refine x_aload_n Z dJ5_init_d00df_17 rfl rfl ?_
    refine x_iconst Z dJ5_init_d00df_18 ?_
    refine x_putf (ci := 1) (j := 1) (C := RJ4) (T := TJ4) (N := 4) (fs' := [_, _, _, _]) Z tyJ4 tyJ4_ok nmJ4 inJ4g rfl (by decide) q622 rfl rfl rfl nb0 (by decide +kernel) dJ5_init_d00df_19 (by assumption) (by exact Nat.le_of_ble_eq_true rfl) rfl ?_
    refine x_ew (ws1_id ha1) ?_
    refine x_goto Z 38 dJ5_init_d00df_22 (by decide) ?_
    exact x_vret Z E (⟨rfl, n12, ⟨ha1, hv1, by decide, by decide, by decide⟩, hn12, hf⟩) dJ5_init_d00df_38 (Nat.le_of_ble_eq_true rfl) (Nat.le_of_ble_eq_true rfl)
abbrev rmc_J4_init_da8c8 : Room := { frames := 2, cells := 1, slots := 16, locals := 61 }
set_option maxRecDepth 100000 in
theorem c_J4_init_da8c8 {l : Launch} {s0 : State} {G : gK} {w : wd} (h0 : gS0 s0) (htr : l.stackTraces = false) {a : Nat} (ha : w a = some (eO 1 [.null, iv 0, iv 0, iv 0])) : gM l s0 G yJ4_init_da8c8 [Cond.code yJ4_init_da8c8 cJ4_init_da8c8 1 none] rmc_J4_init_da8c8 [rv a] w (fun v w' => v = none ∧ ∃ v0, sbS G w' a v0 0 0 16 (fun _ => 0) ∧ w v0 = none ∧ fr (fun x => x = a) w w') (noX) := by
  refine g_of h0 htr (by decide +kernel) (Nat.le_of_ble_eq_true rfl) ?_
  intro b Z0 E
  have Z : gAm b l s0 G cJ4_init_da8c8 RJ4 1 rmc_J4_init_da8c8 := Z0
  refine x_el (L' := [(0, rv a)]) rfl ?_
  refine x_aload_n Z dJ4_init_da8c8_0 rfl rfl ?_
  refine x_bipush Z dJ4_init_da8c8_1 (by decide +kernel) ?_
  refine x_callI Z okJ5_init_d00df q608 q609 rfl dJ4_init_da8c8_3 (c_J5_init_d00df h0 htr (by assumption)) ⟨Nat.le_of_ble_eq_true rfl, Nat.le_of_ble_eq_true rfl, Nat.le_of_ble_eq_true rfl, Nat.le_of_ble_eq_true rfl⟩ rfl rfl (Nat.le_of_ble_eq_true rfl) (fun v9 w9 hR => ?_)
  obtain ⟨rfl, v0, hs, hv0, hf9⟩ := hR
  simp only [Option.toList_some, Option.toList_none, List.cons_append, List.nil_append]
  exact x_vret Z E (⟨rfl, v0, hs, hv0, hf9⟩) dJ4_init_da8c8_6 (Nat.le_of_ble_eq_true rfl) (Nat.le_of_ble_eq_true rfl)
abbrev rmc_J5_length_8abf5 : Room := { frames := 0, cells := 0, slots := 0, locals := 0 }
set_option maxRecDepth 100000 in
theorem c_J5_length_8abf5 {l : Launch} {s0 : State} {G : gK} {w : wd} (h0 : gS0 s0) (htr : l.stackTraces = false) {a v : Nat} {ml n : Int} {m : Nat} {C : Int → Int} (hs : sbS G w a v ml n m C) : gM l s0 G yJ5_length_8abf5 [Cond.code yJ5_length_8abf5 cJ5_length_8abf5 1 (some .int)] rmc_J5_length_8abf5 [rv a] w (fun v w' => v = some (iv (n)) ∧ w' = w) (noX) := by
  refine g_of h0 htr (by decide +kernel) (Nat.le_of_ble_eq_true rfl) ?_
  intro b Z0 E
  have Z : gAm b l s0 G cJ5_length_8abf5 RJ5 1 rmc_J5_length_8abf5 := Z0
  refine x_el (L' := [(0, rv a)]) rfl ?_
  obtain ⟨hsa, hsv, hsn, hsm, hs9⟩ := id hs
  refine x_aload_n Z dJ5_length_8abf5_0 rfl rfl ?_
  refine x_getf (ci := 1) (j := 3) (C := RJ4) (T := TJ4) (N := 4) Z inJ4g rfl (by decide) q624 rfl dJ5_length_8abf5_1 (by assumption) rfl ?_
  exact x_iret Z E (⟨rfl, rfl⟩) dJ5_length_8abf5_4 (Nat.le_of_ble_eq_true rfl) (Nat.le_of_ble_eq_true rfl)
abbrev rmc_J4_length_8abf5 : Room := { frames := 1, cells := 0, slots := 0, locals := 20 }
set_option maxRecDepth 100000 in
theorem c_J4_length_8abf5 {l : Launch} {s0 : State} {G : gK} {w : wd} (h0 : gS0 s0) (htr : l.stackTraces = false) {a v : Nat} {ml n : Int} {m : Nat} {C : Int → Int} (hs : sbS G w a v ml n m C) : gM l s0 G yJ4_length_8abf5 [Cond.code yJ4_length_8abf5 cJ4_length_8abf5 1 (some .int)] rmc_J4_length_8abf5 [rv a] w (fun v w' => v = some (iv (n)) ∧ w' = w) (noX) := by
  refine g_of h0 htr (by decide +kernel) (Nat.le_of_ble_eq_true rfl) ?_
  intro b Z0 E
  have Z : gAm b l s0 G cJ4_length_8abf5 RJ4 1 rmc_J4_length_8abf5 := Z0
  refine x_el (L' := [(0, rv a)]) rfl ?_
  obtain ⟨hsa, hsv, hsn, hsm, hs9⟩ := id hs
  refine x_aload_n Z dJ4_length_8abf5_0 rfl rfl ?_
  refine x_callSU (ci := 1) (C := RJ4) (T := TJ4) (N := 4) Z okJ5_length_8abf5 q641 q1394 q633 q642 (by decide) rfl dJ4_length_8abf5_1 (c_J5_length_8abf5 h0 htr hs) hs.1 ⟨Nat.le_of_ble_eq_true rfl, Nat.le_of_ble_eq_true rfl, Nat.le_of_ble_eq_true rfl, Nat.le_of_ble_eq_true rfl⟩ rfl rfl (Nat.le_of_ble_eq_true rfl) (fun v9 w9 hR => ?_)
  obtain ⟨rfl, e9⟩ := hR
  refine x_ew e9 ?_
  simp only [Option.toList_some, Option.toList_none, List.cons_append, List.nil_append]
  exact x_iret Z E (⟨rfl, rfl⟩) dJ4_length_8abf5_4 (Nat.le_of_ble_eq_true rfl) (Nat.le_of_ble_eq_true rfl)
abbrev rmc_J5_getValue_6d5f1 : Room := { frames := 0, cells := 0, slots := 0, locals := 0 }
set_option maxRecDepth 100000 in
theorem c_J5_getValue_6d5f1 {l : Launch} {s0 : State} {G : gK} {w : wd} (h0 : gS0 s0) (htr : l.stackTraces = false) {a v : Nat} {ml n : Int} {m : Nat} {C : Int → Int} (hs : sbS G w a v ml n m C) : gM l s0 G yJ5_getValue_6d5f1 [Cond.code yJ5_getValue_6d5f1 cJ5_getValue_6d5f1 1 (some (.array .byte))] rmc_J5_getValue_6d5f1 [rv a] w (fun v9 w' => v9 = some (rv v) ∧ w' = w) (noX) := by
  refine g_of h0 htr (by decide +kernel) (Nat.le_of_ble_eq_true rfl) ?_
  intro b Z0 E
  have Z : gAm b l s0 G cJ5_getValue_6d5f1 RJ5 1 rmc_J5_getValue_6d5f1 := Z0
  refine x_el (L' := [(0, rv a)]) rfl ?_
  obtain ⟨hsa, hsv, hsn, hsm, hs9⟩ := id hs
  refine x_aload_n Z dJ5_getValue_6d5f1_0 rfl rfl ?_
  refine x_getf (ci := 1) (j := 0) (C := RJ4) (T := TJ4) (N := 4) Z inJ4g rfl (by decide) q621 rfl dJ5_getValue_6d5f1_1 (by assumption) rfl ?_
  exact x_aretA Z E (⟨rfl, rfl⟩) dJ5_getValue_6d5f1_4 (Nat.le_of_ble_eq_true rfl) (Nat.le_of_ble_eq_true rfl)
abbrev rmc_J5_isLatin1_aae02 : Room := { frames := 0, cells := 0, slots := 0, locals := 0 }
set_option maxRecDepth 100000 in
theorem c_J5_isLatin1_aae02 {l : Launch} {s0 : State} {G : gK} {w : wd} (h0 : gS0 s0) (htr : l.stackTraces = false) {a v : Nat} {ml n : Int} {m : Nat} {C : Int → Int} (hs : sbS G w a v ml n m C) : gM l s0 G yJ5_isLatin1_aae02 [Cond.code yJ5_isLatin1_aae02 cJ5_isLatin1_aae02 1 (some .boolean)] rmc_J5_isLatin1_aae02 [rv a] w (fun v w' => v = some (iv (b2 (true))) ∧ w' = w) (noX) := by
  refine g_of h0 htr (by decide +kernel) (Nat.le_of_ble_eq_true rfl) ?_
  intro b Z0 E
  have Z : gAm b l s0 G cJ5_isLatin1_aae02 RJ5 1 rmc_J5_isLatin1_aae02 := Z0
  refine x_el (L' := [(0, rv a)]) rfl ?_
  obtain ⟨hsa, hsv, hsn, hsm, hs9⟩ := id hs
  have hzCOMPACT_STRINGS := st_CS h0 Z
  refine x_gets Z hzCOMPACT_STRINGS q612 rfl dJ5_isLatin1_aae02_0 ?_
  refine x_if_eq Z 17 dJ5_isLatin1_aae02_3 (by decide) ⟨by omega, by omega⟩ (fun c3 => ?_) (fun c3 => ?_)
  · exact absurd c3 (by omega)
  ·
    refine x_aload_n Z dJ5_isLatin1_aae02_6 rfl rfl ?_
    refine x_getf (ci := 1) (j := 1) (C := RJ4) (T := TJ4) (N := 4) Z inJ4g rfl (by decide) q622 rfl dJ5_isLatin1_aae02_7 (by assumption) rfl ?_
    refine x_if_ne Z 17 dJ5_isLatin1_aae02_10 (by decide) ⟨by omega, by omega⟩ (fun c10 => ?_) (fun c10 => ?_)
    · exact absurd c10 (by omega)
    ·
      refine x_ib true Z dJ5_isLatin1_aae02_13 (by decide) ?_
      refine x_goto Z 18 dJ5_isLatin1_aae02_14 (by decide) ?_
      exact x_zret Z E (⟨rfl, rfl⟩) dJ5_isLatin1_aae02_18 (Nat.le_of_ble_eq_true rfl) (Nat.le_of_ble_eq_true rfl)
abbrev rmc_J1_canEncode_fc78d : Room := { frames := 0, cells := 0, slots := 0, locals := 0 }
set_option maxRecDepth 100000 in
theorem c_J1_canEncode_fc78d {l : Launch} {s0 : State} {G : gK} {w : wd} (h0 : gS0 s0) (htr : l.stackTraces = false) {c : Int} (h1 : 0 ≤ c) (h2 : c ≤ 255) : gM l s0 G yJ1_canEncode_fc78d [Cond.code yJ1_canEncode_fc78d cJ1_canEncode_fc78d 1 (some .boolean)] rmc_J1_canEncode_fc78d [iv c] w (fun v w' => v = some (iv (b2 (true))) ∧ w' = w) (noX) := by
  refine g_of h0 htr (by decide +kernel) (Nat.le_of_ble_eq_true rfl) ?_
  intro b Z0 E
  have Z : gAm b l s0 G cJ1_canEncode_fc78d RJ1 1 rmc_J1_canEncode_fc78d := Z0
  refine x_el (L' := [(0, iv c)]) rfl ?_
  refine x_iload_n Z dJ1_canEncode_fc78d_0 rfl rfl ?_
  refine x_sipush Z dJ1_canEncode_fc78d_1 (by decide +kernel) ?_
  refine x_icmp_gt Z 11 dJ1_canEncode_fc78d_4 (by decide) ⟨by omega, by omega⟩ ⟨by omega, by omega⟩ (fun c4 => ?_) (fun c4 => ?_)
  · exact absurd c4 (by omega)
  ·
    refine x_ib true Z dJ1_canEncode_fc78d_7 (by decide) ?_
    refine x_goto Z 12 dJ1_canEncode_fc78d_8 (by decide) ?_
    exact x_zret Z E (⟨rfl, rfl⟩) dJ1_canEncode_fc78d_12 (Nat.le_of_ble_eq_true rfl) (Nat.le_of_ble_eq_true rfl)
abbrev rmc_J8_newLength_cabcc : Room := { frames := 1, cells := 0, slots := 0, locals := 40 }
set_option maxRecDepth 100000 in
theorem c_J8_newLength_cabcc {l : Launch} {s0 : State} {G : gK} {w : wd} (h0 : gS0 s0) (htr : l.stackTraces = false) {x y z : Int} (h1 : 0 ≤ x ∧ x ≤ 1000) (h2 : 0 ≤ y ∧ y ≤ 1000) (h3 : 1 ≤ z ∧ z ≤ 1000) : gM l s0 G yJ8_newLength_cabcc [Cond.code yJ8_newLength_cabcc cJ8_newLength_cabcc 4 (some .int)] rmc_J8_newLength_cabcc [iv x, iv y, iv z] w (fun v w' => v = some (iv (x + (if y < z then z else y))) ∧ w' = w) (noX) := by
  refine g_of h0 htr (by decide +kernel) (Nat.le_of_ble_eq_true rfl) ?_
  intro b Z0 E
  have Z : gAm b l s0 G cJ8_newLength_cabcc RJ8 4 rmc_J8_newLength_cabcc := Z0
  refine x_el (L' := [(0, iv x), (1, iv y), (2, iv z)]) rfl ?_
  refine x_iload_n Z dJ8_newLength_cabcc_0 rfl rfl ?_
  refine x_iload_n Z dJ8_newLength_cabcc_1 rfl rfl ?_
  refine x_iload_n Z dJ8_newLength_cabcc_2 rfl rfl ?_
  refine x_mmax Z q662 q663 q51 q664 dJ8_newLength_cabcc_3 ⟨by omega, by omega⟩ ⟨by omega, by omega⟩ (Nat.le_of_ble_eq_true rfl) (Nat.le_of_ble_eq_true rfl) (by exact Nat.le_of_ble_eq_true rfl) (by exact Nat.le_of_ble_eq_true rfl) ?_
  refine x_iadd Z dJ8_newLength_cabcc_6 ?_
  refine x_istore_n (L' := [(3, _), (0, _), (1, _), (2, _)]) Z dJ8_newLength_cabcc_7 rfl (Nat.le_of_ble_eq_true rfl) rfl ?_
  refine x_iconst Z dJ8_newLength_cabcc_8 ?_
  refine x_iload_n Z dJ8_newLength_cabcc_9 rfl rfl ?_
  refine x_icmp_ge Z 21 dJ8_newLength_cabcc_10 (by decide) ⟨by omega, by omega⟩ ⟨by omega, by omega⟩ (fun c10 => ?_) (fun c10 => ?_)
  · exact absurd c10 (by omega)
  ·
    refine x_iload_n Z dJ8_newLength_cabcc_13 rfl rfl ?_
    refine x_ldc (z := 2147483639) Z q665 (by decide +kernel) dJ8_newLength_cabcc_14 ?_
    refine x_icmp_gt Z 21 dJ8_newLength_cabcc_16 (by decide) ⟨by omega, by omega⟩ ⟨by omega, by omega⟩ (fun c16 => ?_) (fun c16 => ?_)
    · exact absurd c16 (by omega)
    ·
      refine x_iload_n Z dJ8_newLength_cabcc_19 rfl rfl ?_
      exact x_iret Z E (⟨rfl, rfl⟩) dJ8_newLength_cabcc_20 (Nat.le_of_ble_eq_true rfl) (Nat.le_of_ble_eq_true rfl)
abbrev rmc_J5_newCapacity_0f7a4 : Room := { frames := 6, cells := 1, slots := 6, locals := 100 }
set_option maxRecDepth 100000 in
theorem c_J5_newCapacity_0f7a4 {l : Launch} {s0 : State} {G : gK} {w : wd} (h0 : gS0 s0) (htr : l.stackTraces = false) {a v : Nat} {ml n : Int} {m : Nat} {C : Int → Int} {q : Int} (hs : sbS G w a v ml n m C) (h1 : (m : Int) < q) (h2 : q ≤ 131) : gM l s0 G yJ5_newCapacity_0f7a4 [Cond.code yJ5_newCapacity_0f7a4 cJ5_newCapacity_0f7a4 6 (some .int)] rmc_J5_newCapacity_0f7a4 [rv a, iv q] w (fun v w' => v = some (iv (((m : Int) + (if q - (m : Int) < (m : Int) + 2 then (m : Int) + 2 else q - (m : Int))))) ∧ w' = w) (noX) := by
  refine g_of h0 htr (by decide +kernel) (Nat.le_of_ble_eq_true rfl) ?_
  intro b Z0 E
  have Z : gAm b l s0 G cJ5_newCapacity_0f7a4 RJ5 6 rmc_J5_newCapacity_0f7a4 := Z0
  refine x_el (L' := [(0, rv a), (1, iv q)]) rfl ?_
  obtain ⟨hsa, hsv, hsn, hsm, hs9⟩ := id hs
  refine x_aload_n Z dJ5_newCapacity_0f7a4_0 rfl rfl ?_
  refine x_getf (ci := 1) (j := 0) (C := RJ4) (T := TJ4) (N := 4) Z inJ4g rfl (by decide) q621 rfl dJ5_newCapacity_0f7a4_1 (by assumption) rfl ?_
  refine x_alenB Z dJ5_newCapacity_0f7a4_4 (by assumption) ?_
  refine x_istore_n (L' := [(2, _), (0, _), (1, _)]) Z dJ5_newCapacity_0f7a4_5 rfl (Nat.le_of_ble_eq_true rfl) rfl ?_
  refine x_iload_n Z dJ5_newCapacity_0f7a4_6 rfl rfl ?_
  refine x_aload_n Z dJ5_newCapacity_0f7a4_7 rfl rfl ?_
  refine x_getf (ci := 1) (j := 1) (C := RJ4) (T := TJ4) (N := 4) Z inJ4g rfl (by decide) q622 rfl dJ5_newCapacity_0f7a4_8 (by assumption) rfl ?_
  refine x_ishl Z dJ5_newCapacity_0f7a4_11 ?_
  refine x_tp (bShl0 ⟨by omega, by omega⟩) ?_
  refine x_istore_n (L' := [(3, _), (2, _), (0, _), (1, _)]) Z dJ5_newCapacity_0f7a4_12 rfl (Nat.le_of_ble_eq_true rfl) rfl ?_
  refine x_iload_n Z dJ5_newCapacity_0f7a4_13 rfl rfl ?_
  refine x_iload_n Z dJ5_newCapacity_0f7a4_14 rfl rfl ?_
  refine x_isub Z dJ5_newCapacity_0f7a4_15 ?_
  refine x_istore (L' := [(4, _), (3, _), (2, _), (0, _), (1, _)]) Z dJ5_newCapacity_0f7a4_16 (Nat.le_of_ble_eq_true rfl) rfl ?_
  refine x_iload_n Z dJ5_newCapacity_0f7a4_18 rfl rfl ?_
  refine x_iload Z dJ5_newCapacity_0f7a4_19 rfl ?_
  refine x_iload_n Z dJ5_newCapacity_0f7a4_21 rfl rfl ?_
  refine x_iconst Z dJ5_newCapacity_0f7a4_22 ?_
  refine x_aload_n Z dJ5_newCapacity_0f7a4_23 rfl rfl ?_
  refine x_getf (ci := 1) (j := 1) (C := RJ4) (T := TJ4) (N := 4) Z inJ4g rfl (by decide) q622 rfl dJ5_newCapacity_0f7a4_24 (by assumption) rfl ?_
  refine x_ishl Z dJ5_newCapacity_0f7a4_27 ?_
  refine x_tp (y := 2) (bShl0 ⟨by omega, by omega⟩) ?_
  refine x_iadd Z dJ5_newCapacity_0f7a4_28 ?_
  refine x_callS Z okJ8_newLength_cabcc q659 q660 dJ5_newCapacity_0f7a4_29 (c_J8_newLength_cabcc h0 htr (by omega) (by omega) (by omega)) ⟨Nat.le_of_ble_eq_true rfl, Nat.le_of_ble_eq_true rfl, Nat.le_of_ble_eq_true rfl, Nat.le_of_ble_eq_true rfl⟩ rfl rfl (Nat.le_of_ble_eq_true rfl) (fun v9 w9 hR => ?_)
  obtain ⟨rfl, e9⟩ := hR
  refine x_ew e9 ?_
  simp only [Option.toList_some, Option.toList_none, List.cons_append, List.nil_append]
  refine x_istore (L' := [(5, _), (4, _), (3, _), (2, _), (0, _), (1, _)]) Z dJ5_newCapacity_0f7a4_32 (Nat.le_of_ble_eq_true rfl) rfl ?_
  refine x_iload Z dJ5_newCapacity_0f7a4_34 rfl ?_
  refine x_ldc (z := 2147483647) Z q669 (by decide +kernel) dJ5_newCapacity_0f7a4_36 ?_
  refine x_icmp_ne Z 51 dJ5_newCapacity_0f7a4_38 (by decide) ⟨by omega, by omega⟩ ⟨by omega, by omega⟩ (fun c38 => ?_) (fun c38 => ?_)
  ·
    refine x_iload Z dJ5_newCapacity_0f7a4_51 rfl ?_
    refine x_aload_n Z dJ5_newCapacity_0f7a4_53 rfl rfl ?_
    refine x_getf (ci := 1) (j := 1) (C := RJ4) (T := TJ4) (N := 4) Z inJ4g rfl (by decide) q622 rfl dJ5_newCapacity_0f7a4_54 (by assumption) rfl ?_
    refine x_ishr Z dJ5_newCapacity_0f7a4_57 ?_
    refine x_tp (bShr0 ⟨by omega, by omega⟩) ?_
    exact x_iret Z E (⟨rfl, rfl⟩) dJ5_newCapacity_0f7a4_58 (Nat.le_of_ble_eq_true rfl) (Nat.le_of_ble_eq_true rfl)
  · exact absurd c38 (by omega)
abbrev rmc_J7_copyOf_9075b : Room := { frames := 1, cells := 1, slots := 262, locals := 40 }
set_option maxRecDepth 100000 in
theorem c_J7_copyOf_9075b {l : Launch} {s0 : State} {G : gK} {w : wd} (h0 : gS0 s0) (htr : l.stackTraces = false) {v m : Nat} {C : Int → Int} {q : Int} (hv : w v = some (eB G m (sgF C))) (h1 : (m : Int) < q) (h2 : q ≤ 262) : gM l s0 G yJ7_copyOf_9075b [Cond.code yJ7_copyOf_9075b cJ7_copyOf_9075b 3 (some (.array .byte))] rmc_J7_copyOf_9075b [rv v, iv q] w (fun v9 w' => ∃ q0 C', v9 = some (rv q0) ∧ w q0 = none ∧ w' q0 = some (eB G q.toNat (sgF C')) ∧ fr (fun _ => False) w w') (noX) := by
  refine g_of h0 htr (by decide +kernel) (Nat.le_of_ble_eq_true rfl) ?_
  intro b Z0 E
  have Z : gAm b l s0 G cJ7_copyOf_9075b RJ7 3 rmc_J7_copyOf_9075b := Z0
  refine x_el (L' := [(0, rv v), (1, iv q)]) rfl ?_
  refine x_iload_n Z dJ7_copyOf_9075b_0 rfl rfl ?_
  refine x_aload_n Z dJ7_copyOf_9075b_1 rfl rfl ?_
  refine x_alenB Z dJ7_copyOf_9075b_2 (by assumption) ?_
  refine x_icmp_ne Z 14 dJ7_copyOf_9075b_3 (by decide) ⟨by omega, by omega⟩ ⟨by omega, by omega⟩ (fun c3 => ?_) (fun c3 => ?_)
  ·
    refine x_iload_n Z dJ7_copyOf_9075b_14 rfl rfl ?_
    refine x_newB Z (q.toNat) q82 (by first | rfl | omega) (by omega) (Nat.le_of_ble_eq_true rfl) (by show 0 + _ ≤ 262; omega) dJ7_copyOf_9075b_15 (fun n15 hn15 => ?_)
    refine x_wd (k' := 1) (n' := 262) (by omega) (by omega) ?_
    refine x_gen fun w0 hw0 => ?_
    have hf : fr (fun _ => False) w w0 := by { rw [hw0]; exact fr.rf.new hn15 }
    have hA : w0 n15 = some (eB G q.toNat (sgF (fun _ => 0))) := by { rw [hw0, ws1_s, eB0] }
    have hv := hf.at (fun h => h) hv
    refine x_astore_n (L' := [(2, _), (0, _), (1, _)]) Z dJ7_copyOf_9075b_17 rfl (Nat.le_of_ble_eq_true rfl) rfl ?_
    refine x_aload_n Z dJ7_copyOf_9075b_18 rfl rfl ?_
    refine x_iconst Z dJ7_copyOf_9075b_19 ?_
    refine x_aload_n Z dJ7_copyOf_9075b_20 rfl rfl ?_
    refine x_iconst Z dJ7_copyOf_9075b_21 ?_
    refine x_aload_n Z dJ7_copyOf_9075b_22 rfl rfl ?_
    refine x_alenB Z dJ7_copyOf_9075b_23 (by assumption) ?_
    refine x_iload_n Z dJ7_copyOf_9075b_24 rfl rfl ?_
    refine x_mmin Z q680 q169 q51 q170 dJ7_copyOf_9075b_25 ⟨by omega, by omega⟩ ⟨by omega, by omega⟩ (Nat.le_of_ble_eq_true rfl) (Nat.le_of_ble_eq_true rfl) (by exact Nat.le_of_ble_eq_true rfl) (by exact Nat.le_of_ble_eq_true rfl) ?_
    refine x_tp (if_neg (by omega)) ?_
    refine x_acopy Z q681 q683 q682 q53 dJ7_copyOf_9075b_28 (by assumption) (by assumption) (by omega) (by omega) (by omega) (by omega) (by omega) (by omega) (by omega) (Nat.le_of_ble_eq_true rfl) (by exact Nat.le_of_ble_eq_true rfl) ?_
    refine x_aload_n Z dJ7_copyOf_9075b_31 rfl rfl ?_
    exact x_aretA Z E (⟨n15, _, rfl, hn15, ws1_s, hf.set0 hn15⟩) dJ7_copyOf_9075b_32 (Nat.le_of_ble_eq_true rfl) (Nat.le_of_ble_eq_true rfl)
  · exact absurd c3 (by omega)
abbrev rmc_J5_ensureCapacityInternal_d00df : Room := { frames := 7, cells := 2, slots := 268, locals := 125 }
set_option maxRecDepth 100000 in
theorem c_J5_ensureCapacityInternal_d00df {l : Launch} {s0 : State} {G : gK} {w : wd} (h0 : gS0 s0) (htr : l.stackTraces = false) {a v : Nat} {ml n : Int} {m : Nat} {C : Int → Int} {q : Int} (hs : sbS G w a v ml n m C) (h1 : 0 ≤ q) (h2 : q ≤ 131) : gM l s0 G yJ5_ensureCapacityInternal_d00df [Cond.code yJ5_ensureCapacityInternal_d00df cJ5_ensureCapacityInternal_d00df 3 none] rmc_J5_ensureCapacityInternal_d00df [rv a, iv q] w (fun v9 w' => v9 = none ∧ ∃ v' m' C', sbS G w' a v' ml n m' C' ∧ q ≤ m' ∧ (v' = v ∨ w v' = none) ∧ fr (fun x => x = a) w w') (noX) := by
  refine g_of h0 htr (by decide +kernel) (Nat.le_of_ble_eq_true rfl) ?_
  intro b Z0 E
  have Z : gAm b l s0 G cJ5_ensureCapacityInternal_d00df RJ5 3 rmc_J5_ensureCapacityInternal_d00df := Z0
  refine x_el (L' := [(0, rv a), (1, iv q)]) rfl ?_
  obtain ⟨hsa, hsv, hsn, hsm, hs9⟩ := id hs
  refine x_aload_n Z dJ5_ensureCapacityInternal_d00df_0 rfl rfl ?_
  refine x_getf (ci := 1) (j := 0) (C := RJ4) (T := TJ4) (N := 4) Z inJ4g rfl (by decide) q621 rfl dJ5_ensureCapacityInternal_d00df_1 (by assumption) rfl ?_
  refine x_alenB Z dJ5_ensureCapacityInternal_d00df_4 (by assumption) ?_
  refine x_aload_n Z dJ5_ensureCapacityInternal_d00df_5 rfl rfl ?_
  refine x_getf (ci := 1) (j := 1) (C := RJ4) (T := TJ4) (N := 4) Z inJ4g rfl (by decide) q622 rfl dJ5_ensureCapacityInternal_d00df_6 (by assumption) rfl ?_
  refine x_ishr Z dJ5_ensureCapacityInternal_d00df_9 ?_
  refine x_tp (bShr0 ⟨by omega, by omega⟩) ?_
  refine x_istore_n (L' := [(2, _), (0, _), (1, _)]) Z dJ5_ensureCapacityInternal_d00df_10 rfl (Nat.le_of_ble_eq_true rfl) rfl ?_
  refine x_iload_n Z dJ5_ensureCapacityInternal_d00df_11 rfl rfl ?_
  refine x_iload_n Z dJ5_ensureCapacityInternal_d00df_12 rfl rfl ?_
  refine x_isub Z dJ5_ensureCapacityInternal_d00df_13 ?_
  refine x_if_le Z 38 dJ5_ensureCapacityInternal_d00df_14 (by decide) ⟨by omega, by omega⟩ (fun c14 => ?_) (fun c14 => ?_)
  ·
    have hfin : v = v ∧ True := ⟨rfl, trivial⟩
    exact x_vret Z E (by first | exact ⟨rfl, v, m, C, hs, by omega, Or.inl rfl, fr.rf⟩ | exact ⟨rfl, q0, _, C9, ⟨ws1_s, (ws1_n hne.symm).trans hq1, by omega, by omega, by omega⟩, by omega, Or.inr hq0, (hf9.mono (fun _ h => h.elim)).set rfl⟩) dJ5_ensureCapacityInternal_d00df_38 (Nat.le_of_ble_eq_true rfl) (Nat.le_of_ble_eq_true rfl)
  ·
    refine x_aload_n Z dJ5_ensureCapacityInternal_d00df_17 rfl rfl ?_
    refine x_aload_n Z dJ5_ensureCapacityInternal_d00df_18 rfl rfl ?_
    refine x_getf (ci := 1) (j := 0) (C := RJ4) (T := TJ4) (N := 4) Z inJ4g rfl (by decide) q621 rfl dJ5_ensureCapacityInternal_d00df_19 (by assumption) rfl ?_
    refine x_aload_n Z dJ5_ensureCapacityInternal_d00df_22 rfl rfl ?_
    refine x_iload_n Z dJ5_ensureCapacityInternal_d00df_23 rfl rfl ?_
    refine x_callP (ci := 1) (C := RJ4) (T := TJ4) (N := 4) Z okJ5_newCapacity_0f7a4 q655 q1397 q657 q656 q687 rfl ⟨by decide, by decide⟩ rfl dJ5_ensureCapacityInternal_d00df_24 (c_J5_newCapacity_0f7a4 h0 htr hs (by omega) (by omega)) hs.1 ⟨Nat.le_of_ble_eq_true rfl, Nat.le_of_ble_eq_true rfl, Nat.le_of_ble_eq_true rfl, Nat.le_of_ble_eq_true rfl⟩ rfl rfl (Nat.le_of_ble_eq_true rfl) (fun v9 w9 hR => ?_)
    obtain ⟨rfl, e9⟩ := hR
    refine x_ew e9 ?_
    simp only [Option.toList_some, Option.toList_none, List.cons_append, List.nil_append]
    refine x_aload_n Z dJ5_ensureCapacityInternal_d00df_27 rfl rfl ?_
    refine x_getf (ci := 1) (j := 1) (C := RJ4) (T := TJ4) (N := 4) Z inJ4g rfl (by decide) q622 rfl dJ5_ensureCapacityInternal_d00df_28 (by assumption) rfl ?_
    refine x_ishl Z dJ5_ensureCapacityInternal_d00df_31 ?_
    refine x_tp (bShl0 ⟨by omega, by omega⟩) ?_
    refine x_callS Z okJ7_copyOf_9075b q670 q671 dJ5_ensureCapacityInternal_d00df_32 (c_J7_copyOf_9075b h0 htr hsv (by omega) (by omega)) ⟨Nat.le_of_ble_eq_true rfl, Nat.le_of_ble_eq_true rfl, Nat.le_of_ble_eq_true rfl, Nat.le_of_ble_eq_true rfl⟩ rfl rfl (Nat.le_of_ble_eq_true rfl) (fun v9 w9 hR => ?_)
    obtain ⟨q0, C9, rfl, hq0, hq1, hf9⟩ := hR
    simp only [Option.toList_some, Option.toList_none, List.cons_append, List.nil_append]
    have hsa9 := hf9.at (fun h => h) hsa
    have hne : a ≠ q0 := fun z => by { rw [z, hq0] at hsa; cases hsa }
    refine x_putf (ci := 1) (j := 0) (C := RJ4) (T := TJ4) (N := 4) (fs' := [_, _, _, _]) Z tyJ4 tyJ4_ok nmJ4 inJ4g rfl (by decide) q621 rfl rfl rfl rfl rfl dJ5_ensureCapacityInternal_d00df_35 (by assumption) (by exact Nat.le_of_ble_eq_true rfl) rfl ?_
    exact x_vret Z E (by first | exact ⟨rfl, v, m, C, hs, by omega, Or.inl rfl, fr.rf⟩ | exact ⟨rfl, q0, _, C9, ⟨ws1_s, (ws1_n hne.symm).trans hq1, by omega, by omega, by omega⟩, by omega, Or.inr hq0, (hf9.mono (fun _ h => h.elim)).set rfl⟩) dJ5_ensureCapacityInternal_d00df_38 (Nat.le_of_ble_eq_true rfl) (Nat.le_of_ble_eq_true rfl)
