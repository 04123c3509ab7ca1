/-! spec2: walks, by program -/
theorem q51 : Cond.initialized RJ9 ∈ gT := gt_1 16 rfl rfl
theorem q56 : Cond.initialized RJ6 ∈ gT := gt_1 21 rfl rfl
theorem q71 : Cond.methodLink RX1 3 objectInit ∈ gT := gt_1 36 rfl rfl
theorem q74 : Cond.fieldLink RX1 15 "Kindcutter$Text" "byEnd" "[I" ∈ gT := gt_1 39 rfl rfl
theorem q82 : Cond.arrayClass .byte ∈ gT := gt_1 47 rfl rfl
theorem q83 : Cond.arrayClass .int ∈ gT := gt_1 48 rfl rfl
theorem q117 : Cond.methodLink RX1 59 yX1_begins ∈ gT := gt_1 82 rfl rfl
theorem q118 : Cond.instanceMethod yX1_begins ∈ gT := gt_1 83 rfl rfl
theorem q119 : Cond.selects RX1 yX1_begins yX1_begins ∈ gT := gt_1 84 rfl rfl
theorem q120 : Cond.code yX1_begins cX1_begins 4 (some .int) ∈ gT := gt_1 85 rfl rfl
theorem q151 : Cond.methodLinkNest RX1 69 yX2_cutsOf RX2 ∈ gT := gt_1 116 rfl rfl
theorem q152 : Cond.static yX2_cutsOf ∈ gT := gt_1 117 rfl rfl
theorem q153 : Cond.code yX2_cutsOf cX2_cutsOf 1 (some .int) ∈ gT := gt_1 118 rfl rfl
theorem q154 : Cond.methodLink RX1 72 yJ6_bitCount_0f7a4 ∈ gT := gt_1 119 rfl rfl
theorem q155 : Cond.static yJ6_bitCount_0f7a4 ∈ gT := gt_1 120 rfl rfl
theorem q156 : Cond.code yJ6_bitCount_0f7a4 cJ6_bitCount_0f7a4 1 (some .int) ∈ gT := gt_1 121 rfl rfl
theorem q157 : Cond.constant RJ6 265 1431655765 ∈ gT := gt_1 122 rfl rfl
theorem q158 : Cond.constant RJ6 266 858993459 ∈ gT := gt_1 123 rfl rfl
theorem q159 : Cond.constant RJ6 267 252645135 ∈ gT := gt_1 124 rfl rfl
theorem q160 : Cond.methodLink RX1 77 yX1_backBegins ∈ gT := gt_1 125 rfl rfl
theorem q161 : Cond.instanceMethod yX1_backBegins ∈ gT := gt_1 126 rfl rfl
theorem q162 : Cond.selects RX1 yX1_backBegins yX1_backBegins ∈ gT := gt_1 127 rfl rfl
theorem q163 : Cond.code yX1_backBegins cX1_backBegins 4 (some .int) ∈ gT := gt_1 128 rfl rfl
theorem q164 : Cond.methodLink RX1 80 yX1_fewestPieces ∈ gT := gt_1 129 rfl rfl
theorem q165 : Cond.instanceMethod yX1_fewestPieces ∈ gT := gt_1 130 rfl rfl
theorem q166 : Cond.selects RX1 yX1_fewestPieces yX1_fewestPieces ∈ gT := gt_1 131 rfl rfl
theorem q167 : Cond.code yX1_fewestPieces cX1_fewestPieces 4 (some .int) ∈ gT := gt_1 132 rfl rfl
theorem q168 : Cond.methodLink RX1 63 yJ9_min_7cf53 ∈ gT := gt_1 133 rfl rfl
theorem q169 : Cond.static yJ9_min_7cf53 ∈ gT := gt_1 134 rfl rfl
theorem q170 : Cond.code yJ9_min_7cf53 cJ9_min_7cf53 2 (some .int) ∈ gT := gt_1 135 rfl rfl
theorem q171 : Cond.methodLink RX1 83 yX1_piecesCutAt ∈ gT := gt_1 136 rfl rfl
theorem q172 : Cond.instanceMethod yX1_piecesCutAt ∈ gT := gt_1 137 rfl rfl
theorem q173 : Cond.selects RX1 yX1_piecesCutAt yX1_piecesCutAt ∈ gT := gt_1 138 rfl rfl
theorem q174 : Cond.code yX1_piecesCutAt cX1_piecesCutAt 5 (some .int) ∈ gT := gt_1 139 rfl rfl
theorem q175 : Cond.methodLinkNest RX1 43 yX2_isIn RX2 ∈ gT := gt_1 140 rfl rfl
theorem q176 : Cond.methodLink RX1 86 yX1_isNamed ∈ gT := gt_1 141 rfl rfl
theorem q177 : Cond.instanceMethod yX1_isNamed ∈ gT := gt_1 142 rfl rfl
theorem q178 : Cond.selects RX1 yX1_isNamed yX1_isNamed ∈ gT := gt_1 143 rfl rfl
theorem q179 : Cond.code yX1_isNamed cX1_isNamed 1 (some .boolean) ∈ gT := gt_1 144 rfl rfl
theorem q180 : Cond.methodLink RX1 90 yX1_firstFault ∈ gT := gt_1 145 rfl rfl
theorem q181 : Cond.instanceMethod yX1_firstFault ∈ gT := gt_1 146 rfl rfl
theorem q182 : Cond.selects RX1 yX1_firstFault yX1_firstFault ∈ gT := gt_1 147 rfl rfl
theorem q183 : Cond.code yX1_firstFault cX1_firstFault 2 (some .int) ∈ gT := gt_1 148 rfl rfl
theorem q196 : Cond.methodLinkNest RX1 93 yX2_mixed RX2 ∈ gT := gt_1 161 rfl rfl
theorem q197 : Cond.static yX2_mixed ∈ gT := gt_1 162 rfl rfl
theorem q198 : Cond.code yX2_mixed cX2_mixed 3 (some .long) ∈ gT := gt_1 163 rfl rfl
theorem q205 : Cond.methodLink RX1 97 yX1_placesOf ∈ gT := gt_1 170 rfl rfl
theorem q206 : Cond.instanceMethod yX1_placesOf ∈ gT := gt_1 171 rfl rfl
theorem q207 : Cond.selects RX1 yX1_placesOf yX1_placesOf ∈ gT := gt_1 172 rfl rfl
theorem q208 : Cond.code yX1_placesOf cX1_placesOf 4 (some .int) ∈ gT := gt_1 173 rfl rfl
theorem q347 : Cond.methodLink RX1 39 yX1_setSign ∈ gT := gt_2 72 rfl rfl
theorem q348 : Cond.instanceMethod yX1_setSign ∈ gT := gt_2 73 rfl rfl
theorem q349 : Cond.selects RX1 yX1_setSign yX1_setSign ∈ gT := gt_2 74 rfl rfl
theorem q350 : Cond.code yX1_setSign cX1_setSign 3 none ∈ gT := gt_2 75 rfl rfl
theorem okX1_setSign : gOk yX1_setSign cX1_setSign 3 none 2 := ⟨q350, q37, ⟨by decide +kernel, by decide +kernel⟩, by decide +kernel⟩
theorem okX1_begins : gOk yX1_begins cX1_begins 4 (some .int) 0 := ⟨q120, q37, ⟨by decide +kernel, by decide +kernel⟩, by decide +kernel⟩
theorem okX2_cutsOf : gOk yX2_cutsOf cX2_cutsOf 1 (some .int) 1 := ⟨q153, q36, ⟨by decide +kernel, by decide +kernel⟩, by decide +kernel⟩
theorem okJ6_bitCount_0f7a4 : gOk yJ6_bitCount_0f7a4 cJ6_bitCount_0f7a4 1 (some .int) 1 := ⟨q156, q56, ⟨by decide +kernel, by decide +kernel⟩, by decide +kernel⟩
theorem okX1_backBegins : gOk yX1_backBegins cX1_backBegins 4 (some .int) 0 := ⟨q163, q37, ⟨by decide +kernel, by decide +kernel⟩, by decide +kernel⟩
theorem okX1_fewestPieces : gOk yX1_fewestPieces cX1_fewestPieces 4 (some .int) 0 := ⟨q167, q37, ⟨by decide +kernel, by decide +kernel⟩, by decide +kernel⟩
theorem okX1_piecesCutAt : gOk yX1_piecesCutAt cX1_piecesCutAt 5 (some .int) 1 := ⟨q174, q37, ⟨by decide +kernel, by decide +kernel⟩, by decide +kernel⟩
theorem okX1_isNamed : gOk yX1_isNamed cX1_isNamed 1 (some .boolean) 0 := ⟨q179, q37, ⟨by decide +kernel, by decide +kernel⟩, by decide +kernel⟩
theorem okX1_firstFault : gOk yX1_firstFault cX1_firstFault 2 (some .int) 0 := ⟨q183, q37, ⟨by decide +kernel, by decide +kernel⟩, by decide +kernel⟩
theorem okX2_mixed : gOk yX2_mixed cX2_mixed 3 (some .long) 2 := ⟨q198, q36, ⟨by decide +kernel, by decide +kernel⟩, by decide +kernel⟩
theorem okX1_placesOf : gOk yX1_placesOf cX1_placesOf 4 (some .int) 1 := ⟨q208, q37, ⟨by decide +kernel, by decide +kernel⟩, by decide +kernel⟩
abbrev rmc_J6_bitCount_0f7a4 : Room := { frames := 0, cells := 0, slots := 0, locals := 0 }
set_option maxRecDepth 100000 in
theorem c_J6_bitCount_0f7a4 {l : Launch} {s0 : State} {G : gK} {w : wd} (h0 : gS0 s0) (htr : l.stackTraces = false) {x : Int}  : gM l s0 G yJ6_bitCount_0f7a4 [Cond.code yJ6_bitCount_0f7a4 cJ6_bitCount_0f7a4 1 (some .int)] rmc_J6_bitCount_0f7a4 [iv x] w (fun v w' => v = some (iv (bcn x)) ∧ w' = w) (noX) := by
  refine g_of h0 htr (by decide +kernel) (Nat.le_of_ble_eq_true rfl) ?_
  intro b Z0 E
  have Z : gAm b l s0 G cJ6_bitCount_0f7a4 RJ6 1 rmc_J6_bitCount_0f7a4 := Z0
  refine x_el (L' := [(0, iv x)]) rfl ?_
  refine x_iload_n Z dJ6_bitCount_0f7a4_0 rfl rfl ?_
  refine x_iload_n Z dJ6_bitCount_0f7a4_1 rfl rfl ?_
  refine x_iconst Z dJ6_bitCount_0f7a4_2 ?_
  refine x_iushr Z dJ6_bitCount_0f7a4_3 ?_
  refine x_ldcw (z := 1431655765) Z q157 (by decide +kernel) dJ6_bitCount_0f7a4_4 ?_
  refine x_iand Z dJ6_bitCount_0f7a4_7 ?_
  refine x_isub Z dJ6_bitCount_0f7a4_8 ?_
  refine x_istore_n (L' := [(0, _)]) Z dJ6_bitCount_0f7a4_9 rfl (Nat.le_of_ble_eq_true rfl) rfl ?_
  refine x_iload_n Z dJ6_bitCount_0f7a4_10 rfl rfl ?_
  refine x_ldcw (z := 858993459) Z q158 (by decide +kernel) dJ6_bitCount_0f7a4_11 ?_
  refine x_iand Z dJ6_bitCount_0f7a4_14 ?_
  refine x_iload_n Z dJ6_bitCount_0f7a4_15 rfl rfl ?_
  refine x_iconst Z dJ6_bitCount_0f7a4_16 ?_
  refine x_iushr Z dJ6_bitCount_0f7a4_17 ?_
  refine x_ldcw (z := 858993459) Z q158 (by decide +kernel) dJ6_bitCount_0f7a4_18 ?_
  refine x_iand Z dJ6_bitCount_0f7a4_21 ?_
  refine x_iadd Z dJ6_bitCount_0f7a4_22 ?_
  refine x_istore_n (L' := [(0, _)]) Z dJ6_bitCount_0f7a4_23 rfl (Nat.le_of_ble_eq_true rfl) rfl ?_
  refine x_iload_n Z dJ6_bitCount_0f7a4_24 rfl rfl ?_
  refine x_iload_n Z dJ6_bitCount_0f7a4_25 rfl rfl ?_
  refine x_iconst Z dJ6_bitCount_0f7a4_26 ?_
  refine x_iushr Z dJ6_bitCount_0f7a4_27 ?_
  refine x_iadd Z dJ6_bitCount_0f7a4_28 ?_
  refine x_ldcw (z := 252645135) Z q159 (by decide +kernel) dJ6_bitCount_0f7a4_29 ?_
  refine x_iand Z dJ6_bitCount_0f7a4_32 ?_
  refine x_istore_n (L' := [(0, _)]) Z dJ6_bitCount_0f7a4_33 rfl (Nat.le_of_ble_eq_true rfl) rfl ?_
  refine x_iload_n Z dJ6_bitCount_0f7a4_34 rfl rfl ?_
  refine x_iload_n Z dJ6_bitCount_0f7a4_35 rfl rfl ?_
  refine x_bipush Z dJ6_bitCount_0f7a4_36 (by decide +kernel) ?_
  refine x_iushr Z dJ6_bitCount_0f7a4_38 ?_
  refine x_iadd Z dJ6_bitCount_0f7a4_39 ?_
  refine x_istore_n (L' := [(0, _)]) Z dJ6_bitCount_0f7a4_40 rfl (Nat.le_of_ble_eq_true rfl) rfl ?_
  refine x_iload_n Z dJ6_bitCount_0f7a4_41 rfl rfl ?_
  refine x_iload_n Z dJ6_bitCount_0f7a4_42 rfl rfl ?_
  refine x_bipush Z dJ6_bitCount_0f7a4_43 (by decide +kernel) ?_
  refine x_iushr Z dJ6_bitCount_0f7a4_45 ?_
  refine x_iadd Z dJ6_bitCount_0f7a4_46 ?_
  refine x_istore_n (L' := [(0, _)]) Z dJ6_bitCount_0f7a4_47 rfl (Nat.le_of_ble_eq_true rfl) rfl ?_
  refine x_iload_n Z dJ6_bitCount_0f7a4_48 rfl rfl ?_
  refine x_bipush Z dJ6_bitCount_0f7a4_49 (by decide +kernel) ?_
  refine x_iand Z dJ6_bitCount_0f7a4_51 ?_
  exact x_iret Z E (⟨rfl, rfl⟩) dJ6_bitCount_0f7a4_52 (Nat.le_of_ble_eq_true rfl) (Nat.le_of_ble_eq_true rfl)
abbrev rmc_X1_init : Room := { frames := 1, cells := 2, slots := 61, locals := 40 }
set_option maxRecDepth 100000 in
theorem c_X1_init {l : Launch} {s0 : State} {G : gK} {w : wd} (h0 : gS0 s0) (htr : l.stackTraces = false) {a : Nat} (ha : w a = some (eO 2 [.null, iv 0, .null])) : gM l s0 G yX1_init [Cond.code yX1_init cX1_init 1 none] rmc_X1_init [rv a] w (fun v w' => v = none ∧ ∃ r bb, tX G w' a r bb 0 (fun _ => 0) (fun _ => 0) ∧ w r = none ∧ w bb = none ∧ fr (fun q => q = a) w w') (noX) := by
  refine g_of h0 htr (by decide +kernel) (Nat.le_of_ble_eq_true rfl) ?_
  intro b Z0 E
  have Z : gAm b l s0 G cX1_init RX1 1 rmc_X1_init := Z0
  refine x_el (L' := [(0, rv a)]) rfl ?_
  refine x_aload_n Z dX1_init_0 rfl rfl ?_
  refine x_objI Z q71 dX1_init_1 (Nat.le_of_ble_eq_true rfl) (Nat.le_of_ble_eq_true rfl) (Nat.le_of_ble_eq_true rfl) ?_
  refine x_aload_n Z dX1_init_4 rfl rfl ?_
  refine x_bipush Z dX1_init_5 (by decide +kernel) ?_
  refine x_newB Z (30) q82 (by first | rfl | omega) (by omega) (Nat.le_of_ble_eq_true rfl) (Nat.le_of_ble_eq_true rfl) dX1_init_7 (fun n7 hn7 => ?_)
  have hd7 : a ≠ n7 := fun z => by subst z; rw [ha] at hn7; cases hn7
  have ha7 := (ws1_n (e := eB G 30 (fun _ => 0)) hd7).trans ha
  refine x_putfF (ci := 2) (j := 0) (C := RX1) (T := TX1) (N := 3) (fs' := [_, _, _]) Z tyX1 tyX1_ok nmX1 inX1g rfl (by decide) q72 rfl rfl E.2.2.2 rfl rfl rfl rfl dX1_init_9 (by assumption) (by exact Nat.le_of_ble_eq_true rfl) rfl ?_
  have ha9 := ws1_s (w := ws1 w n7 (eB G 30 (fun _ => 0))) (a := a) (e := eO 2 [rv n7, iv 0, .null])
  refine x_aload_n Z dX1_init_12 rfl rfl ?_
  refine x_bipush Z dX1_init_13 (by decide +kernel) ?_
  refine x_newI Z (31) q83 (by first | rfl | omega) (by omega) (Nat.le_of_ble_eq_true rfl) (Nat.le_of_ble_eq_true rfl) dX1_init_15 (fun n15 hn15 => ?_)
  have hd15 : a ≠ n15 := fun z => by subst z; rw [ha9] at hn15; cases hn15
  have hd57 : n7 ≠ n15 := fun z => by subst z; rw [ws1_n hd7.symm, ws1_s] at hn15; cases hn15
  have ha15 := (ws1_n (e := eI G 31 (fun _ => 0)) hd15).trans ha9
  have hnw : w n15 = none := by rw [ws1_n hd15.symm, ws1_n hd57.symm] at hn15; exact hn15
  refine x_putfF (ci := 2) (j := 2) (C := RX1) (T := TX1) (N := 3) (fs' := [_, _, _]) Z tyX1 tyX1_ok nmX1 inX1g rfl (by decide) q74 rfl rfl E.2.2.2 rfl rfl rfl rfl dX1_init_17 (by assumption) (by exact Nat.le_of_ble_eq_true rfl) rfl ?_
  exact x_vret Z E (⟨rfl, n7, n15, ⟨ws1_s, by rw [ws1_n hd7.symm, ws1_n hd57, ws1_n hd7.symm, ws1_s]; exact congrArg some (congrArg (eB G 30) (funext fun j => by show (0 : Int) = bB 0; decide +kernel)), by rw [ws1_n hd15.symm, ws1_s], by omega, by omega, fun j => ⟨Int.le_refl 0, by show (0 : Int) ≤ 255; decide⟩⟩, hn7, hnw, (((((fr.rf (P := fun q => q = a)).new hn7).set rfl).new hn15).set rfl)⟩) dX1_init_20 (Nat.le_of_ble_eq_true rfl) (Nat.le_of_ble_eq_true rfl)
abbrev rmc_X1_setSign : Room := { frames := 0, cells := 0, slots := 0, locals := 0 }
set_option maxRecDepth 100000 in
theorem c_X1_setSign {l : Launch} {s0 : State} {G : gK} {w : wd} (h0 : gS0 s0) (htr : l.stackTraces = false) {a r bb : Nat} {n : Int} {C B : Int → Int} {p s : Int} (ht : tX G w a r bb n C B) (h1 : 0 ≤ p) (h2 : p < 30) (h3 : 0 ≤ s) (h4 : s ≤ 255) : gM l s0 G yX1_setSign [Cond.code yX1_setSign cX1_setSign 3 none] rmc_X1_setSign [rv a, iv p, iv s] w (fun v w' => v = none ∧ tX G w' a r bb n (uF C p s) B ∧ fr (tP a r bb) w w') (noX) := by
  refine g_of h0 htr (by decide +kernel) (Nat.le_of_ble_eq_true rfl) ?_
  intro b Z0 E
  have Z : gAm b l s0 G cX1_setSign RX1 3 rmc_X1_setSign := Z0
  refine x_el (L' := [(0, rv a), (1, iv p), (2, iv s)]) rfl ?_
  obtain ⟨ha, hr, hb, hn0, hn30, hC⟩ := id ht
  refine x_aload_n Z dX1_setSign_0 rfl rfl ?_
  refine x_getf (ci := 2) (j := 0) (C := RX1) (T := TX1) (N := 3) Z inX1g rfl (by decide) q72 rfl dX1_setSign_1 (by assumption) rfl ?_
  refine x_iload_n Z dX1_setSign_4 rfl rfl ?_
  refine x_iload_n Z dX1_setSign_5 rfl rfl ?_
  refine x_i2b Z dX1_setSign_6 ?_
  refine x_bast Z dX1_setSign_7 (by assumption) (by omega) (by omega) (by omega) ?_
  exact x_vret Z E (⟨rfl, ht.row ⟨h3, h4⟩ bB_bB, fr.rf.set tP2⟩) dX1_setSign_8 (Nat.le_of_ble_eq_true rfl) (Nat.le_of_ble_eq_true rfl)
abbrev rmc_X1_insertSign : Room := { frames := 1, cells := 0, slots := 0, locals := 22 }
set_option maxRecDepth 100000 in
theorem c_X1_insertSign {l : Launch} {s0 : State} {G : gK} {w : wd} (h0 : gS0 s0) (htr : l.stackTraces = false) {a r bb : Nat} {n : Int} {C B : Int → Int} {p s : Int} (ht : tX G w a r bb n C B) (h0n : n < 30) (h1 : 0 ≤ p) (h2 : p ≤ n) (h3 : 0 ≤ s) (h4 : s ≤ 255) : gM l s0 G yX1_insertSign [Cond.code yX1_insertSign cX1_insertSign 4 none] rmc_X1_insertSign [rv a, iv p, iv s] w (fun v w' => v = none ∧ tX G w' a r bb (n + 1) (tins n p s C) B ∧ fr (tP a r bb) w w') (noX) := by
  refine g_of h0 htr (by decide +kernel) (Nat.le_of_ble_eq_true rfl) ?_
  intro b Z0 E
  have Z : gAm b l s0 G cX1_insertSign RX1 4 rmc_X1_insertSign := Z0
  refine x_el (L' := [(0, rv a), (1, iv p), (2, iv s)]) rfl ?_
  obtain ⟨ha, hr, hb, hn0, hn30, hC⟩ := id ht
  refine x_aload_n Z dX1_insertSign_0 rfl rfl ?_
  refine x_getf (ci := 2) (j := 1) (C := RX1) (T := TX1) (N := 3) Z inX1g rfl (by decide) q73 rfl dX1_insertSign_1 (by assumption) rfl ?_
  refine x_istore_n (L' := [(3, _), (0, _), (1, _), (2, _)]) Z dX1_insertSign_4 rfl (Nat.le_of_ble_eq_true rfl) rfl ?_
  have loop5 : ∀ (fu : Nat) (i : Int) (w1 : wd), i < (fu : Int) → (p ≤ i ∧ i ≤ n ∧ tX G w1 a r bb n (shf i n C) B ∧ fr (tP a r bb) w w1) → gX b s0 G (0) (0) 5 [(3, iv i), (0, rv a), (1, iv p), (2, iv s)] [] (w1) := by
    intro fu; induction fu with
    | zero => intro i w1 hm hv; exact absurd hm (by omega)
    | succ fu ih5 =>
      intro i w1 hm hv
      obtain ⟨hi0, hin, ht, hf⟩ := hv
      obtain ⟨ha, hr, hb, hn0, hn30, hC⟩ := id ht
      refine x_iload_n Z dX1_insertSign_5 rfl rfl ?_
      refine x_iload_n Z dX1_insertSign_6 rfl rfl ?_
      refine x_icmp_le Z 30 dX1_insertSign_7 (by decide) ⟨by omega, by omega⟩ ⟨by omega, by omega⟩ (fun c7 => ?_) (fun c7 => ?_)
      ·
        refine x_aload_n Z dX1_insertSign_30 rfl rfl ?_
        refine x_iload_n Z dX1_insertSign_31 rfl rfl ?_
        refine x_iload_n Z dX1_insertSign_32 rfl rfl ?_
        refine x_callV (ci := 2) (C := RX1) (T := TX1) (N := 3) Z okX1_setSign q347 q348 q349 rfl dX1_insertSign_33 (c_X1_setSign h0 htr ht (by omega) (by omega) (by omega) (by omega)) ht.1 ⟨Nat.le_of_ble_eq_true rfl, Nat.le_of_ble_eq_true rfl, Nat.le_of_ble_eq_true rfl, Nat.le_of_ble_eq_true rfl⟩ rfl rfl (Nat.le_of_ble_eq_true rfl) (fun v9 w9 hR => ?_)
        obtain ⟨rfl, ht, hf9⟩ := hR
        obtain ⟨ha, hr, hb, hn0, hn30, hC⟩ := id ht
        simp only [Option.toList_some, Option.toList_none, List.cons_append, List.nil_append]
        have hf := hf.tr hf9
        have ei : i = p := by omega
        have ht : tX G w9 a r bb n (tins n p s C) B := by { have h := ht; rw [ei] at h; exact h }
        obtain ⟨ha, hr, hb, -, -, -⟩ := id ht
        refine x_aload_n Z dX1_insertSign_36 rfl rfl ?_
        refine x_dup Z dX1_insertSign_37 rfl ?_
        refine x_getf (ci := 2) (j := 1) (C := RX1) (T := TX1) (N := 3) Z inX1g rfl (by decide) q73 rfl dX1_insertSign_38 (by assumption) rfl ?_
        refine x_iconst Z dX1_insertSign_41 ?_
        refine x_iadd Z dX1_insertSign_42 ?_
        refine x_putf (ci := 2) (j := 1) (C := RX1) (T := TX1) (N := 3) (fs' := [_, _, _]) Z tyX1 tyX1_ok nmX1 inX1g rfl (by decide) q73 rfl rfl rfl rfl rfl dX1_insertSign_43 (by assumption) (by exact Nat.le_of_ble_eq_true rfl) rfl ?_
        exact x_vret Z E (⟨rfl, ht.many (by omega) (by omega), hf.set tP1⟩) dX1_insertSign_46 (Nat.le_of_ble_eq_true rfl) (Nat.le_of_ble_eq_true rfl)
      ·
        refine x_aload_n Z dX1_insertSign_10 rfl rfl ?_
        refine x_getf (ci := 2) (j := 0) (C := RX1) (T := TX1) (N := 3) Z inX1g rfl (by decide) q72 rfl dX1_insertSign_11 (by assumption) rfl ?_
        refine x_iload_n Z dX1_insertSign_14 rfl rfl ?_
        refine x_aload_n Z dX1_insertSign_15 rfl rfl ?_
        refine x_getf (ci := 2) (j := 0) (C := RX1) (T := TX1) (N := 3) Z inX1g rfl (by decide) q72 rfl dX1_insertSign_16 (by assumption) rfl ?_
        refine x_iload_n Z dX1_insertSign_19 rfl rfl ?_
        refine x_iconst Z dX1_insertSign_20 ?_
        refine x_isub Z dX1_insertSign_21 ?_
        refine x_bald Z dX1_insertSign_22 (by assumption) (by omega) (by omega) (by omega) ?_
        refine x_bast Z dX1_insertSign_23 (by assumption) (by omega) (by omega) (by omega) ?_
        refine x_iinc (L' := [(3, _), (0, _), (1, _), (2, _)]) Z dX1_insertSign_24 rfl (Nat.le_of_ble_eq_true rfl) rfl ?_
        refine x_goto Z 5 dX1_insertSign_27 (by decide) ?_
        exact ih5 (i + -1) _ (by omega) ⟨by omega, by omega, by rw [← shf_s (C := C) hin]; exact ht.row (hC (i - 1)) bB_bB, hf.set tP2⟩
  exact loop5 (n.toNat + 1) n w (by omega) ⟨by omega, by omega, by rw [shf_n]; exact ht, fr.rf⟩
abbrev rmc_X1_retain : Room := { frames := 1, cells := 0, slots := 0, locals := 21 }
set_option maxRecDepth 100000 in
theorem c_X1_retain {l : Launch} {s0 : State} {G : gK} {w : wd} (h0 : gS0 s0) (htr : l.stackTraces = false) {a r bb : Nat} {n : Int} {C B : Int → Int} {m : Int} (ht : tX G w a r bb n C B) : gM l s0 G yX1_retain [Cond.code yX1_retain cX1_retain 4 (some .int)] rmc_X1_retain [rv a, iv m] w (fun v w' => v = some (iv (n - (sft (inB m) n C).1)) ∧ ∃ B', tX G w' a r bb (sft (inB m) n C).1 (sft (inB m) n C).2 B' ∧ fr (tP a r bb) w w') (noX) := by
  refine g_of h0 htr (by decide +kernel) (Nat.le_of_ble_eq_true rfl) ?_
  intro b Z0 E
  have Z : gAm b l s0 G cX1_retain RX1 4 rmc_X1_retain := Z0
  refine x_el (L' := [(0, rv a), (1, iv m)]) rfl ?_
  obtain ⟨ha, hr, hb, hn0, hn30, hC⟩ := id ht
  refine x_aload_n Z dX1_retain_0 rfl rfl ?_
  refine x_getf (ci := 2) (j := 1) (C := RX1) (T := TX1) (N := 3) Z inX1g rfl (by decide) q73 rfl dX1_retain_1 (by assumption) rfl ?_
  refine x_istore_n (L' := [(2, _), (0, _), (1, _)]) Z dX1_retain_4 rfl (Nat.le_of_ble_eq_true rfl) rfl ?_
  refine x_aload_n Z dX1_retain_5 rfl rfl ?_
  refine x_iconst Z dX1_retain_6 ?_
  refine x_putf (ci := 2) (j := 1) (C := RX1) (T := TX1) (N := 3) (fs' := [_, _, _]) Z tyX1 tyX1_ok nmX1 inX1g rfl (by decide) q73 rfl rfl rfl rfl rfl dX1_retain_7 (by assumption) (by exact Nat.le_of_ble_eq_true rfl) rfl ?_
  refine x_iconst Z dX1_retain_10 ?_
  refine x_istore_n (L' := [(3, _), (2, _), (0, _), (1, _)]) Z dX1_retain_11 rfl (Nat.le_of_ble_eq_true rfl) rfl ?_
  have loop12 : ∀ (fu : Nat) (i k : Int) (C1 : Int → Int) (w1 : wd), n - i < (fu : Int) → (0 ≤ i ∧ i ≤ n ∧ 0 ≤ k ∧ k ≤ i ∧ tX G w1 a r bb k C1 B ∧ fr (tP a r bb) w w1 ∧ forI (sfs (inB m) C) i n (k, C1) = sft (inB m) n C ∧ ∀ j, i ≤ j → C1 j = C j) → gX b s0 G (0) (0) 12 [(3, iv i), (2, iv n), (0, rv a), (1, iv m)] [] (w1) := by
    intro fu; induction fu with
    | zero => intro i k C1 w1 hm hv; exact absurd hm (by omega)
    | succ fu ih12 =>
      intro i k C1 w1 hm hv
      obtain ⟨hi0, hin, hk0, hki, ht, hf, hif, hie⟩ := hv
      obtain ⟨ha, hr, hb, hn00, hn300, hC⟩ := id ht
      refine x_iload_n Z dX1_retain_12 rfl rfl ?_
      refine x_iload_n Z dX1_retain_13 rfl rfl ?_
      refine x_icmp_ge Z 56 dX1_retain_14 (by decide) ⟨by omega, by omega⟩ ⟨by omega, by omega⟩ (fun c14 => ?_) (fun c14 => ?_)
      ·
        refine x_iload_n Z dX1_retain_56 rfl rfl ?_
        refine x_aload_n Z dX1_retain_57 rfl rfl ?_
        refine x_getf (ci := 2) (j := 1) (C := RX1) (T := TX1) (N := 3) Z inX1g rfl (by decide) q73 rfl dX1_retain_58 (by assumption) rfl ?_
        refine x_isub Z dX1_retain_61 ?_
        have hif2 := hif
        rw [forI_e (by omega)] at hif2
        exact x_iret Z E (⟨by rw [← hif2], B, by rw [← hif2]; exact ht, hf⟩) dX1_retain_62 (Nat.le_of_ble_eq_true rfl) (Nat.le_of_ble_eq_true rfl)
      ·
        refine x_iload_n Z dX1_retain_17 rfl rfl ?_
        refine x_iload_n Z dX1_retain_18 rfl rfl ?_
        refine x_callSN Z okX2_isIn q175 q140 dX1_retain_19 (c_X2_isIn h0 htr ) ⟨Nat.le_of_ble_eq_true rfl, Nat.le_of_ble_eq_true rfl, Nat.le_of_ble_eq_true rfl, Nat.le_of_ble_eq_true rfl⟩ rfl rfl (Nat.le_of_ble_eq_true rfl) (fun v9 w9 hR => ?_)
        obtain ⟨rfl, e9⟩ := hR
        refine x_ew e9 ?_
        simp only [Option.toList_some, Option.toList_none, List.cons_append, List.nil_append]
        refine x_ifb_eq Z 50 dX1_retain_22 (by decide) (fun c22 => ?_) (fun c22 => ?_)
        ·
          refine x_iinc (L' := [(3, _), (2, _), (0, _), (1, _)]) Z dX1_retain_50 rfl (Nat.le_of_ble_eq_true rfl) rfl ?_
          refine x_goto Z 12 dX1_retain_53 (by decide) ?_
          first | exact ih12 (i + 1) k C1 w1 (by omega) ⟨by omega, by omega, by omega, by omega, ht, hf, by rw [← hif, forI_s (i := i) (by omega), sfs_f c22], fun j hj => hie j (by omega)⟩ | exact ih12 (i + 1) (k + 1) (uF C1 k (C1 i)) _ (by omega) ⟨by omega, by omega, by omega, by omega, (ht.row (hC i) bB_bB).many (by omega) (by omega), (hf.set tP2).set tP1, by rw [← hif, forI_s (i := i) (by omega), sfs_t c22, hie i (by omega)], fun j hj => by rw [uF_n (by omega)]; exact hie j (by omega)⟩
        ·
          refine x_aload_n Z dX1_retain_25 rfl rfl ?_
          refine x_getf (ci := 2) (j := 0) (C := RX1) (T := TX1) (N := 3) Z inX1g rfl (by decide) q72 rfl dX1_retain_26 (by assumption) rfl ?_
          refine x_aload_n Z dX1_retain_29 rfl rfl ?_
          refine x_getf (ci := 2) (j := 1) (C := RX1) (T := TX1) (N := 3) Z inX1g rfl (by decide) q73 rfl dX1_retain_30 (by assumption) rfl ?_
          refine x_aload_n Z dX1_retain_33 rfl rfl ?_
          refine x_getf (ci := 2) (j := 0) (C := RX1) (T := TX1) (N := 3) Z inX1g rfl (by decide) q72 rfl dX1_retain_34 (by assumption) rfl ?_
          refine x_iload_n Z dX1_retain_37 rfl rfl ?_
          refine x_bald Z dX1_retain_38 (by assumption) (by omega) (by omega) (by omega) ?_
          refine x_bast Z dX1_retain_39 (by assumption) (by omega) (by omega) (by omega) ?_
          obtain ⟨ha, hr, -⟩ := id (ht.row (p := k) (hC i) bB_bB)
          refine x_aload_n Z dX1_retain_40 rfl rfl ?_
          refine x_dup Z dX1_retain_41 rfl ?_
          refine x_getf (ci := 2) (j := 1) (C := RX1) (T := TX1) (N := 3) Z inX1g rfl (by decide) q73 rfl dX1_retain_42 (by assumption) rfl ?_
          refine x_iconst Z dX1_retain_45 ?_
          refine x_iadd Z dX1_retain_46 ?_
          refine x_putf (ci := 2) (j := 1) (C := RX1) (T := TX1) (N := 3) (fs' := [_, _, _]) Z tyX1 tyX1_ok nmX1 inX1g rfl (by decide) q73 rfl rfl rfl rfl rfl dX1_retain_47 (by assumption) (by exact Nat.le_of_ble_eq_true rfl) rfl ?_
          refine x_iinc (L' := [(3, _), (2, _), (0, _), (1, _)]) Z dX1_retain_50 rfl (Nat.le_of_ble_eq_true rfl) rfl ?_
          refine x_goto Z 12 dX1_retain_53 (by decide) ?_
          first | exact ih12 (i + 1) k C1 w1 (by omega) ⟨by omega, by omega, by omega, by omega, ht, hf, by rw [← hif, forI_s (i := i) (by omega), sfs_f c22], fun j hj => hie j (by omega)⟩ | exact ih12 (i + 1) (k + 1) (uF C1 k (C1 i)) _ (by omega) ⟨by omega, by omega, by omega, by omega, (ht.row (hC i) bB_bB).many (by omega) (by omega), (hf.set tP2).set tP1, by rw [← hif, forI_s (i := i) (by omega), sfs_t c22, hie i (by omega)], fun j hj => by rw [uF_n (by omega)]; exact hie j (by omega)⟩
  exact loop12 (n.toNat + 1) 0 0 C _ (by omega) ⟨by omega, by omega, by omega, by omega, ht.many (by omega) (by omega), fr.rf.set tP1, rfl, fun _ _ => rfl⟩
abbrev rmc_X1_become : Room := { frames := 0, cells := 0, slots := 0, locals := 0 }
set_option maxRecDepth 100000 in
theorem c_X1_become {l : Launch} {s0 : State} {G : gK} {w : wd} (h0 : gS0 s0) (htr : l.stackTraces = false) {a r bb : Nat} {n : Int} {C B : Int → Int} {a2 r2 bb2 : Nat} {n2 : Int} {C2 B2 : Int → Int} {f t : Int} (ht : tX G w a r bb n C B) (ht2 : tX G w a2 r2 bb2 n2 C2 B2) (hs : tSelfC a r bb n C a2 r2 bb2 n2 C2) (h1 : 0 ≤ f) (h2 : f ≤ t) (h3 : t ≤ n2) : gM l s0 G yX1_become [Cond.code yX1_become cX1_become 5 none] rmc_X1_become [rv a, rv a2, iv f, iv t] w (fun v w' => v = none ∧ tX G w' a r bb (t - f) (bcm f (t - f) C2 C) B ∧ fr (tP a r bb) w w') (noX) := by
  refine g_of h0 htr (by decide +kernel) (Nat.le_of_ble_eq_true rfl) ?_
  intro b Z0 E
  have Z : gAm b l s0 G cX1_become RX1 5 rmc_X1_become := Z0
  refine x_el (L' := [(0, rv a), (1, rv a2), (2, iv f), (3, iv t)]) rfl ?_
  obtain ⟨ha, hr, hb, hn0, hn30, hC⟩ := id ht
  obtain ⟨-, -, -, h2n0, h2n30, -⟩ := id ht2
  refine x_iload_n Z dX1_become_0 rfl rfl ?_
  refine x_istore (L' := [(4, _), (0, _), (1, _), (2, _), (3, _)]) Z dX1_become_1 (Nat.le_of_ble_eq_true rfl) rfl ?_
  have loop3 : ∀ (fu : Nat) (i : Int) (w1 : wd), t - i < (fu : Int) → (f ≤ i ∧ i ≤ t ∧ tX G w1 a r bb n (bcm f (i - f) C2 C) B ∧ fr (tP a r bb) w w1) → gX b s0 G (0) (0) 3 [(4, iv i), (0, rv a), (1, rv a2), (2, iv f), (3, iv t)] [] (w1) := by
    intro fu; induction fu with
    | zero => intro i w1 hm hv; exact absurd hm (by omega)
    | succ fu ih3 =>
      intro i w1 hm hv
      obtain ⟨hi0, hin, ht, hf⟩ := hv
      obtain ⟨ha, hr, hb, hn0, hn30, hC⟩ := id ht
      obtain ⟨n3, D, hb2, hr2, hD, hDC⟩ := hs.oth ht ht2 hf
      have hDi : D i = C2 (f + (i - f)) := by
        rw [show f + (i - f) = i by omega]
        rcases hDC with e | ⟨e, e2, -⟩
        · rw [e]
        · rw [e, bcm_o (by omega), e2]
      refine x_iload Z dX1_become_3 rfl ?_
      refine x_iload_n Z dX1_become_5 rfl rfl ?_
      refine x_icmp_ge Z 31 dX1_become_6 (by decide) ⟨by omega, by omega⟩ ⟨by omega, by omega⟩ (fun c6 => ?_) (fun c6 => ?_)
      ·
        refine x_aload_n Z dX1_become_31 rfl rfl ?_
        refine x_iload_n Z dX1_become_32 rfl rfl ?_
        refine x_iload_n Z dX1_become_33 rfl rfl ?_
        refine x_isub Z dX1_become_34 ?_
        refine x_putf (ci := 2) (j := 1) (C := RX1) (T := TX1) (N := 3) (fs' := [_, _, _]) Z tyX1 tyX1_ok nmX1 inX1g rfl (by decide) q73 rfl rfl rfl rfl rfl dX1_become_35 (by assumption) (by exact Nat.le_of_ble_eq_true rfl) rfl ?_
        have ei : i = t := by omega
        rw [ei] at ht
        exact x_vret Z E (⟨rfl, ht.many (by omega) (by omega), hf.set tP1⟩) dX1_become_38 (Nat.le_of_ble_eq_true rfl) (Nat.le_of_ble_eq_true rfl)
      ·
        refine x_aload_n Z dX1_become_9 rfl rfl ?_
        refine x_getf (ci := 2) (j := 0) (C := RX1) (T := TX1) (N := 3) Z inX1g rfl (by decide) q72 rfl dX1_become_10 (by assumption) rfl ?_
        refine x_iload Z dX1_become_13 rfl ?_
        refine x_iload_n Z dX1_become_15 rfl rfl ?_
        refine x_isub Z dX1_become_16 ?_
        refine x_aload_n Z dX1_become_17 rfl rfl ?_
        refine x_getf (ci := 2) (j := 0) (C := RX1) (T := TX1) (N := 3) Z inX1g rfl (by decide) q72 rfl dX1_become_18 (by assumption) rfl ?_
        refine x_iload Z dX1_become_21 rfl ?_
        refine x_bald Z dX1_become_23 (by assumption) (by omega) (by omega) (by omega) ?_
        refine x_bast Z dX1_become_24 (by assumption) (by omega) (by omega) (by omega) ?_
        refine x_iinc (L' := [(4, _), (0, _), (1, _), (2, _), (3, _)]) Z dX1_become_25 rfl (Nat.le_of_ble_eq_true rfl) rfl ?_
        refine x_goto Z 3 dX1_become_28 (by decide) ?_
        exact ih3 (i + 1) _ (by omega) ⟨by omega, by omega, by rw [show i + 1 - f = (i - f) + 1 by omega, ← bcm_s (by omega) hDi]; exact ht.row (hD i) bB_bB, hf.set tP2⟩
  exact loop3 (t.toNat + 1) f w (by omega) ⟨by omega, by omega, by rw [show f - f = 0 by omega, bcm_0]; exact ht, fr.rf⟩
abbrev rmc_X1_append : Room := { frames := 0, cells := 0, slots := 0, locals := 0 }
set_option maxRecDepth 100000 in
theorem c_X1_append {l : Launch} {s0 : State} {G : gK} {w : wd} (h0 : gS0 s0) (htr : l.stackTraces = false) {a r bb : Nat} {n : Int} {C B : Int → Int} {a2 r2 bb2 : Nat} {n2 : Int} {C2 B2 : Int → Int} (ht : tX G w a r bb n C B) (ht2 : tX G w a2 r2 bb2 n2 C2 B2) (hs : tSelfC a r bb n C a2 r2 bb2 n2 C2) (h1 : n + n2 ≤ 30) : gM l s0 G yX1_append [Cond.code yX1_append cX1_append 4 none] rmc_X1_append [rv a, rv a2] w (fun v w' => v = none ∧ tX G w' a r bb (n + n2) (tapp n n2 C2 C) B ∧ fr (tP a r bb) w w') (noX) := by
  refine g_of h0 htr (by decide +kernel) (Nat.le_of_ble_eq_true rfl) ?_
  intro b Z0 E
  have Z : gAm b l s0 G cX1_append RX1 4 rmc_X1_append := Z0
  refine x_el (L' := [(0, rv a), (1, rv a2)]) rfl ?_
  obtain ⟨ha, hr, hb, hn0, hn30, hC⟩ := id ht
  obtain ⟨hb2, hr2, -, h2n0, h2n30, hC2⟩ := id ht2
  refine x_aload_n Z dX1_append_0 rfl rfl ?_
  refine x_getf (ci := 2) (j := 1) (C := RX1) (T := TX1) (N := 3) Z inX1g rfl (by decide) q73 rfl dX1_append_1 (by assumption) rfl ?_
  refine x_istore_n (L' := [(2, _), (0, _), (1, _)]) Z dX1_append_4 rfl (Nat.le_of_ble_eq_true rfl) rfl ?_
  refine x_iconst Z dX1_append_5 ?_
  refine x_istore_n (L' := [(3, _), (2, _), (0, _), (1, _)]) Z dX1_append_6 rfl (Nat.le_of_ble_eq_true rfl) rfl ?_
  have loop7 : ∀ (fu : Nat) (i : Int) (w1 : wd), n2 - i < (fu : Int) → (0 ≤ i ∧ i ≤ n2 ∧ tX G w1 a r bb n (tapp n i C2 C) B ∧ fr (tP a r bb) w w1) → gX b s0 G (0) (0) 7 [(3, iv i), (2, iv n2), (0, rv a), (1, rv a2)] [] (w1) := by
    intro fu; induction fu with
    | zero => intro i w1 hm hv; exact absurd hm (by omega)
    | succ fu ih7 =>
      intro i w1 hm hv
      obtain ⟨hi0, hin, ht, hf⟩ := hv
      obtain ⟨ha, hr, hb, hn0, hn30, hC⟩ := id ht
      obtain ⟨n3, D, hb2, hr2, hD, hDC⟩ := hs.oth ht ht2 hf
      refine x_iload_n Z dX1_append_7 rfl rfl ?_
      refine x_iload_n Z dX1_append_8 rfl rfl ?_
      refine x_icmp_ge Z 35 dX1_append_9 (by decide) ⟨by omega, by omega⟩ ⟨by omega, by omega⟩ (fun c9 => ?_) (fun c9 => ?_)
      ·
        refine x_aload_n Z dX1_append_35 rfl rfl ?_
        refine x_dup Z dX1_append_36 rfl ?_
        refine x_getf (ci := 2) (j := 1) (C := RX1) (T := TX1) (N := 3) Z inX1g rfl (by decide) q73 rfl dX1_append_37 (by assumption) rfl ?_
        refine x_iload_n Z dX1_append_40 rfl rfl ?_
        refine x_iadd Z dX1_append_41 ?_
        refine x_putf (ci := 2) (j := 1) (C := RX1) (T := TX1) (N := 3) (fs' := [_, _, _]) Z tyX1 tyX1_ok nmX1 inX1g rfl (by decide) q73 rfl rfl rfl rfl rfl dX1_append_42 (by assumption) (by exact Nat.le_of_ble_eq_true rfl) rfl ?_
        have ei : i = n2 := by omega
        rw [ei] at ht
        exact x_vret Z E (⟨rfl, ht.many (by omega) (by omega), hf.set tP1⟩) dX1_append_45 (Nat.le_of_ble_eq_true rfl) (Nat.le_of_ble_eq_true rfl)
      ·
        refine x_aload_n Z dX1_append_12 rfl rfl ?_
        refine x_getf (ci := 2) (j := 0) (C := RX1) (T := TX1) (N := 3) Z inX1g rfl (by decide) q72 rfl dX1_append_13 (by assumption) rfl ?_
        refine x_aload_n Z dX1_append_16 rfl rfl ?_
        refine x_getf (ci := 2) (j := 1) (C := RX1) (T := TX1) (N := 3) Z inX1g rfl (by decide) q73 rfl dX1_append_17 (by assumption) rfl ?_
        refine x_iload_n Z dX1_append_20 rfl rfl ?_
        refine x_iadd Z dX1_append_21 ?_
        refine x_aload_n Z dX1_append_22 rfl rfl ?_
        refine x_getf (ci := 2) (j := 0) (C := RX1) (T := TX1) (N := 3) Z inX1g rfl (by decide) q72 rfl dX1_append_23 (by assumption) rfl ?_
        refine x_iload_n Z dX1_append_26 rfl rfl ?_
        refine x_bald Z dX1_append_27 (by assumption) (by omega) (by omega) (by omega) ?_
        refine x_bast Z dX1_append_28 (by assumption) (by omega) (by omega) (by omega) ?_
        refine x_iinc (L' := [(3, _), (2, _), (0, _), (1, _)]) Z dX1_append_29 rfl (Nat.le_of_ble_eq_true rfl) rfl ?_
        refine x_goto Z 7 dX1_append_32 (by decide) ?_
        have hDi : D i = C2 i := by
          rcases hDC with e | ⟨e, e2, e3⟩
          · rw [e]
          · rw [e, tapp_o (by omega), e2]
        exact ih7 (i + 1) _ (by omega) ⟨by omega, by omega, by rw [← tapp_s (by omega) hDi]; exact ht.row (hD i) bB_bB, hf.set tP2⟩
  exact loop7 (n2.toNat + 1) 0 w (by omega) ⟨by omega, by omega, by rw [tapp_0]; exact ht, fr.rf⟩
abbrev rmc_X1_reverse : Room := { frames := 0, cells := 0, slots := 0, locals := 0 }
set_option maxRecDepth 100000 in
theorem c_X1_reverse {l : Launch} {s0 : State} {G : gK} {w : wd} (h0 : gS0 s0) (htr : l.stackTraces = false) {a r bb : Nat} {n : Int} {C B : Int → Int} (ht : tX G w a r bb n C B) : gM l s0 G yX1_reverse [Cond.code yX1_reverse cX1_reverse 5 (some .boolean)] rmc_X1_reverse [rv a] w (fun v w' => ∃ (q : Bool) (C' : Int → Int), v = some (iv (b2 q)) ∧ (q = true ↔ trx n n C) ∧ tEq n C' (fun j => C (n - 1 - j)) ∧ tX G w' a r bb n C' B ∧ fr (tP a r bb) w w') (noX) := by
  refine g_of h0 htr (by decide +kernel) (Nat.le_of_ble_eq_true rfl) ?_
  intro b Z0 E
  have Z : gAm b l s0 G cX1_reverse RX1 5 rmc_X1_reverse := Z0
  refine x_el (L' := [(0, rv a)]) rfl ?_
  obtain ⟨ha, hr, hb, hn0, hn30, hC⟩ := id ht
  have hd2 := bDiv2 hn0 hn30
  refine x_ib false Z dX1_reverse_0 (by decide) ?_
  refine x_istore_n (L' := [(1, _), (0, _)]) Z dX1_reverse_1 rfl (Nat.le_of_ble_eq_true rfl) rfl ?_
  refine x_iconst Z dX1_reverse_2 ?_
  refine x_istore_n (L' := [(2, _), (1, _), (0, _)]) Z dX1_reverse_3 rfl (Nat.le_of_ble_eq_true rfl) rfl ?_
  have loop4 : ∀ (fu : Nat) (i : Int) (o : Bool) (C1 : Int → Int) (w1 : wd), n - i < (fu : Int) → (0 ≤ i ∧ 2 * i ≤ n ∧ C1 = trv i n C ∧ (o = true ↔ trx i n C) ∧ tX G w1 a r bb n C1 B ∧ fr (tP a r bb) w w1) → gX b s0 G (0) (0) 4 [(2, iv i), (1, iv (b2 o)), (0, rv a)] [] (w1) := by
    intro fu; induction fu with
    | zero => intro i o C1 w1 hm hv; exact absurd hm (by omega)
    | succ fu ih4 =>
      intro i o C1 w1 hm hv
      obtain ⟨hi0, hin, hT, ho, ht, hf⟩ := hv
      obtain ⟨ha, hr, hb, hn0, hn30, hC1⟩ := id ht
      refine x_iload_n Z dX1_reverse_4 rfl rfl ?_
      refine x_aload_n Z dX1_reverse_5 rfl rfl ?_
      refine x_getf (ci := 2) (j := 1) (C := RX1) (T := TX1) (N := 3) Z inX1g rfl (by decide) q73 rfl dX1_reverse_6 (by assumption) rfl ?_
      refine x_iconst Z dX1_reverse_9 ?_
      refine x_idiv Z dX1_reverse_10 ⟨by omega, by omega⟩ (by omega) ?_
      refine x_icmp_ge Z 80 dX1_reverse_11 (by decide) ⟨by omega, by omega⟩ ⟨by omega, by omega⟩ (fun c11 => ?_) (fun c11 => ?_)
      ·
        refine x_iload_n Z dX1_reverse_80 rfl rfl ?_
        have hx := trx_h (i := i) (n := n) (C := C) (by omega) (by omega)
        exact x_zret Z E (⟨_, C1, rfl, ho.trans hx, fun j j0 jn => by rw [hT]; exact trv_e (i := i) (by omega) (by omega) j0 jn, ht, hf⟩) dX1_reverse_81 (Nat.le_of_ble_eq_true rfl) (Nat.le_of_ble_eq_true rfl)
      ·
        refine x_aload_n Z dX1_reverse_14 rfl rfl ?_
        refine x_getf (ci := 2) (j := 0) (C := RX1) (T := TX1) (N := 3) Z inX1g rfl (by decide) q72 rfl dX1_reverse_15 (by assumption) rfl ?_
        refine x_iload_n Z dX1_reverse_18 rfl rfl ?_
        refine x_bald Z dX1_reverse_19 (by assumption) (by omega) (by omega) (by omega) ?_
        have hb1 := bB_in (C1 i)
        have hvi := trv_i (i := i) (n := n) (C := C) (by omega)
        rw [← hT] at hvi
        refine x_istore_n (L' := [(3, _), (2, _), (1, _), (0, _)]) Z dX1_reverse_20 rfl (Nat.le_of_ble_eq_true rfl) rfl ?_
        refine x_aload_n Z dX1_reverse_21 rfl rfl ?_
        refine x_getf (ci := 2) (j := 0) (C := RX1) (T := TX1) (N := 3) Z inX1g rfl (by decide) q72 rfl dX1_reverse_22 (by assumption) rfl ?_
        refine x_aload_n Z dX1_reverse_25 rfl rfl ?_
        refine x_getf (ci := 2) (j := 1) (C := RX1) (T := TX1) (N := 3) Z inX1g rfl (by decide) q73 rfl dX1_reverse_26 (by assumption) rfl ?_
        refine x_iconst Z dX1_reverse_29 ?_
        refine x_isub Z dX1_reverse_30 ?_
        refine x_iload_n Z dX1_reverse_31 rfl rfl ?_
        refine x_isub Z dX1_reverse_32 ?_
        refine x_bald Z dX1_reverse_33 (by assumption) (by omega) (by omega) (by omega) ?_
        have hb2 := bB_in (C1 (n - 1 - i))
        refine x_istore (L' := [(4, _), (3, _), (2, _), (1, _), (0, _)]) Z dX1_reverse_34 (Nat.le_of_ble_eq_true rfl) rfl ?_
        refine x_aload_n Z dX1_reverse_36 rfl rfl ?_
        refine x_getf (ci := 2) (j := 0) (C := RX1) (T := TX1) (N := 3) Z inX1g rfl (by decide) q72 rfl dX1_reverse_37 (by assumption) rfl ?_
        refine x_iload_n Z dX1_reverse_40 rfl rfl ?_
        refine x_iload Z dX1_reverse_41 rfl ?_
        refine x_bast Z dX1_reverse_43 (by assumption) (by omega) (by omega) (by omega) ?_
        obtain ⟨ha, hr, -⟩ := id (ht.row (p := i) (hC1 (n - 1 - i)) bB_bB)
        refine x_aload_n Z dX1_reverse_44 rfl rfl ?_
        refine x_getf (ci := 2) (j := 0) (C := RX1) (T := TX1) (N := 3) Z inX1g rfl (by decide) q72 rfl dX1_reverse_45 (by assumption) rfl ?_
        refine x_aload_n Z dX1_reverse_48 rfl rfl ?_
        refine x_getf (ci := 2) (j := 1) (C := RX1) (T := TX1) (N := 3) Z inX1g rfl (by decide) q73 rfl dX1_reverse_49 (by assumption) rfl ?_
        refine x_iconst Z dX1_reverse_52 ?_
        refine x_isub Z dX1_reverse_53 ?_
        refine x_iload_n Z dX1_reverse_54 rfl rfl ?_
        refine x_isub Z dX1_reverse_55 ?_
        refine x_iload_n Z dX1_reverse_56 rfl rfl ?_
        refine x_bast Z dX1_reverse_57 (by assumption) (by omega) (by omega) (by omega) ?_
        refine x_iload_n Z dX1_reverse_58 rfl rfl ?_
        refine x_ifb_ne Z 68 dX1_reverse_59 (by decide) (fun c59 => ?_) (fun c59 => ?_)
        ·
          refine x_ib true Z dX1_reverse_68 (by decide) ?_
          refine x_goto Z 73 dX1_reverse_69 (by decide) ?_
          refine x_istore_n (L' := [(1, _), (4, _), (3, _), (2, _), (0, _)]) Z dX1_reverse_73 rfl (Nat.le_of_ble_eq_true rfl) rfl ?_
          refine x_iinc (L' := [(2, _), (1, _), (4, _), (3, _), (0, _)]) Z dX1_reverse_74 rfl (Nat.le_of_ble_eq_true rfl) rfl ?_
          refine x_goto Z 4 dX1_reverse_77 (by decide) ?_
          refine x_sub [0, 1, 4] rfl ?_
          have hT2 : uF (uF C1 i (C1 (n - 1 - i))) (n - 1 - i) (C1 i) = trv (i + 1) n C := by { rw [hT]; exact trv_s hi0 (by omega) }
          first | exact ih4 (i + 1) true _ _ (by omega) ⟨by omega, by omega, hT2, trq_1 ho c59, (ht.row (hC1 (n - 1 - i)) bB_bB).row (hC1 i) bB_bB, (hf.set tP2).set tP2⟩ | exact ih4 (i + 1) true _ _ (by omega) ⟨by omega, by omega, hT2, trq_2 hi0 (fun e => c65 (by show bB (C1 i) = bB (C1 (n - 1 - i)); rw [hvi.1, hvi.2, e])), (ht.row (hC1 (n - 1 - i)) bB_bB).row (hC1 i) bB_bB, (hf.set tP2).set tP2⟩ | exact ih4 (i + 1) false _ _ (by omega) ⟨by omega, by omega, hT2, trq_3 ho c59 (by { have e := bB_inj (hC1 i) (hC1 (n - 1 - i)) c65; rw [hvi.1, hvi.2] at e; exact e }), (ht.row (hC1 (n - 1 - i)) bB_bB).row (hC1 i) bB_bB, (hf.set tP2).set tP2⟩
        ·
          refine x_iload_n Z dX1_reverse_62 rfl rfl ?_
          refine x_iload Z dX1_reverse_63 rfl ?_
          have hb1 : inr (sgF C1 i) := ⟨by show -2147483648 ≤ bB (C1 i); omega, by show bB (C1 i) ≤ 2147483647; omega⟩
          have hb2 : inr (sgF C1 (n - 1 - i)) := ⟨by show -2147483648 ≤ bB (C1 (n - 1 - i)); omega, by show bB (C1 (n - 1 - i)) ≤ 2147483647; omega⟩
          refine x_icmp_eq Z 72 dX1_reverse_65 (by decide) ⟨by omega, by omega⟩ ⟨by omega, by omega⟩ (fun c65 => ?_) (fun c65 => ?_)
          ·
            refine x_ib false Z dX1_reverse_72 (by decide) ?_
            refine x_istore_n (L' := [(1, _), (4, _), (3, _), (2, _), (0, _)]) Z dX1_reverse_73 rfl (Nat.le_of_ble_eq_true rfl) rfl ?_
            refine x_iinc (L' := [(2, _), (1, _), (4, _), (3, _), (0, _)]) Z dX1_reverse_74 rfl (Nat.le_of_ble_eq_true rfl) rfl ?_
            refine x_goto Z 4 dX1_reverse_77 (by decide) ?_
            refine x_sub [0, 1, 4] rfl ?_
            have hT2 : uF (uF C1 i (C1 (n - 1 - i))) (n - 1 - i) (C1 i) = trv (i + 1) n C := by { rw [hT]; exact trv_s hi0 (by omega) }
            first | exact ih4 (i + 1) true _ _ (by omega) ⟨by omega, by omega, hT2, trq_1 ho c59, (ht.row (hC1 (n - 1 - i)) bB_bB).row (hC1 i) bB_bB, (hf.set tP2).set tP2⟩ | exact ih4 (i + 1) true _ _ (by omega) ⟨by omega, by omega, hT2, trq_2 hi0 (fun e => c65 (by show bB (C1 i) = bB (C1 (n - 1 - i)); rw [hvi.1, hvi.2, e])), (ht.row (hC1 (n - 1 - i)) bB_bB).row (hC1 i) bB_bB, (hf.set tP2).set tP2⟩ | exact ih4 (i + 1) false _ _ (by omega) ⟨by omega, by omega, hT2, trq_3 ho c59 (by { have e := bB_inj (hC1 i) (hC1 (n - 1 - i)) c65; rw [hvi.1, hvi.2] at e; exact e }), (ht.row (hC1 (n - 1 - i)) bB_bB).row (hC1 i) bB_bB, (hf.set tP2).set tP2⟩
          ·
            refine x_ib true Z dX1_reverse_68 (by decide) ?_
            refine x_goto Z 73 dX1_reverse_69 (by decide) ?_
            refine x_istore_n (L' := [(1, _), (4, _), (3, _), (2, _), (0, _)]) Z dX1_reverse_73 rfl (Nat.le_of_ble_eq_true rfl) rfl ?_
            refine x_iinc (L' := [(2, _), (1, _), (4, _), (3, _), (0, _)]) Z dX1_reverse_74 rfl (Nat.le_of_ble_eq_true rfl) rfl ?_
            refine x_goto Z 4 dX1_reverse_77 (by decide) ?_
            refine x_sub [0, 1, 4] rfl ?_
            have hT2 : uF (uF C1 i (C1 (n - 1 - i))) (n - 1 - i) (C1 i) = trv (i + 1) n C := by { rw [hT]; exact trv_s hi0 (by omega) }
            first | exact ih4 (i + 1) true _ _ (by omega) ⟨by omega, by omega, hT2, trq_1 ho c59, (ht.row (hC1 (n - 1 - i)) bB_bB).row (hC1 i) bB_bB, (hf.set tP2).set tP2⟩ | exact ih4 (i + 1) true _ _ (by omega) ⟨by omega, by omega, hT2, trq_2 hi0 (fun e => c65 (by show bB (C1 i) = bB (C1 (n - 1 - i)); rw [hvi.1, hvi.2, e])), (ht.row (hC1 (n - 1 - i)) bB_bB).row (hC1 i) bB_bB, (hf.set tP2).set tP2⟩ | exact ih4 (i + 1) false _ _ (by omega) ⟨by omega, by omega, hT2, trq_3 ho c59 (by { have e := bB_inj (hC1 i) (hC1 (n - 1 - i)) c65; rw [hvi.1, hvi.2] at e; exact e }), (ht.row (hC1 (n - 1 - i)) bB_bB).row (hC1 i) bB_bB, (hf.set tP2).set tP2⟩
  exact loop4 (n.toNat + 1) 0 false C w (by omega) ⟨by omega, by omega, trv_0.symm, trq_0, ht, fr.rf⟩
abbrev rmc_X1_begins : Room := { frames := 4, cells := 0, slots := 0, locals := 87 }
set_option maxRecDepth 100000 in
theorem c_X1_begins {l : Launch} {s0 : State} {G : gK} {w : wd} (h0 : gS0 s0) (htr : l.stackTraces = false) {a r bb : Nat} {n : Int} {C B : Int → Int} (ht : tX G w a r bb n C B) : gM l s0 G yX1_begins [Cond.code yX1_begins cX1_begins 4 (some .int)] rmc_X1_begins [rv a] w (fun v w' => v = some (iv (beg n C)) ∧ w' = w) (noX) := by
  refine g_of h0 htr (by decide +kernel) (Nat.le_of_ble_eq_true rfl) ?_
  intro b Z0 E
  have Z : gAm b l s0 G cX1_begins RX1 4 rmc_X1_begins := Z0
  refine x_el (L' := [(0, rv a)]) rfl ?_
  obtain ⟨ha, hr, hb, hn0, hn30, hC⟩ := id ht
  refine x_iconst Z dX1_begins_0 ?_
  refine x_istore_n (L' := [(1, _), (0, _)]) Z dX1_begins_1 rfl (Nat.le_of_ble_eq_true rfl) rfl ?_
  refine x_iconst Z dX1_begins_2 ?_
  refine x_istore_n (L' := [(2, _), (1, _), (0, _)]) Z dX1_begins_3 rfl (Nat.le_of_ble_eq_true rfl) rfl ?_
  refine x_iconst Z dX1_begins_4 ?_
  refine x_istore_n (L' := [(3, _), (2, _), (1, _), (0, _)]) Z dX1_begins_5 rfl (Nat.le_of_ble_eq_true rfl) rfl ?_
  have loop6 : ∀ (fu : Nat) (i e v : Int), n - i < (fu : Int) → (0 ≤ i ∧ i ≤ n ∧ i ≤ e ∧ e ≤ n ∧ forI (bgs n C) i n (e, v) = forI (bgs n C) 0 n (0, 0)) → gX b s0 G (0) (0) 6 [(3, iv i), (2, iv e), (1, iv v), (0, rv a)] [] (w) := by
    intro fu; induction fu with
    | zero => intro i e v hm hv; exact absurd hm (by omega)
    | succ fu ih6 =>
      intro i e v hm hv
      obtain ⟨hi0, hin, hie, hen, hif⟩ := hv
      refine x_iload_n Z dX1_begins_6 rfl rfl ?_
      refine x_aload_n Z dX1_begins_7 rfl rfl ?_
      refine x_getf (ci := 2) (j := 1) (C := RX1) (T := TX1) (N := 3) Z inX1g rfl (by decide) q73 rfl dX1_begins_8 (by assumption) rfl ?_
      refine x_icmp_ge Z 39 dX1_begins_11 (by decide) ⟨by omega, by omega⟩ ⟨by omega, by omega⟩ (fun c11 => ?_) (fun c11 => ?_)
      ·
        refine x_iload_n Z dX1_begins_39 rfl rfl ?_
        exact x_iret Z E (⟨by unfold beg; rw [← hif, forI_e (by omega)], rfl⟩) dX1_begins_40 (Nat.le_of_ble_eq_true rfl) (Nat.le_of_ble_eq_true rfl)
      ·
        refine x_iload_n Z dX1_begins_14 rfl rfl ?_
        refine x_iload_n Z dX1_begins_15 rfl rfl ?_
        refine x_icmp_ne Z 33 dX1_begins_16 (by decide) ⟨by omega, by omega⟩ ⟨by omega, by omega⟩ (fun c16 => ?_) (fun c16 => ?_)
        ·
          refine x_iinc (L' := [(3, _), (2, _), (1, _), (0, _)]) Z dX1_begins_33 rfl (Nat.le_of_ble_eq_true rfl) rfl ?_
          refine x_goto Z 6 dX1_begins_36 (by decide) ?_
          first | exact ih6 (i + 1) _ _ (by omega) ⟨by omega, by omega, by omega, by omega, by rw [← hif, forI_s (i := i) (by omega), bgs_t c16]⟩ | exact ih6 (i + 1) _ _ (by omega) ⟨by omega, by omega, by omega, by omega, by rw [← hif, forI_s (i := i) (by omega), bgs_f c16]⟩
        ·
          refine x_iload_n Z dX1_begins_19 rfl rfl ?_
          refine x_iconst Z dX1_begins_20 ?_
          refine x_iload_n Z dX1_begins_21 rfl rfl ?_
          refine x_ishl Z dX1_begins_22 ?_
          refine x_ior Z dX1_begins_23 ?_
          refine x_istore_n (L' := [(1, _), (3, _), (2, _), (0, _)]) Z dX1_begins_24 rfl (Nat.le_of_ble_eq_true rfl) rfl ?_
          refine x_iload_n Z dX1_begins_25 rfl rfl ?_
          refine x_aload_n Z dX1_begins_26 rfl rfl ?_
          refine x_iload_n Z dX1_begins_27 rfl rfl ?_
          have hlo := lon_in (n := n) (C := C) (p := i) (by omega)
          refine x_callV (ci := 2) (C := RX1) (T := TX1) (N := 3) Z okX1_longestAt q121 q122 q123 rfl dX1_begins_28 (c_X1_longestAt h0 htr ht (by omega) (by omega)) ht.1 ⟨Nat.le_of_ble_eq_true rfl, Nat.le_of_ble_eq_true rfl, Nat.le_of_ble_eq_true rfl, Nat.le_of_ble_eq_true rfl⟩ rfl rfl (Nat.le_of_ble_eq_true rfl) (fun v9 w9 hR => ?_)
          obtain ⟨rfl, e9⟩ := hR
          refine x_ew e9 ?_
          simp only [Option.toList_some, Option.toList_none, List.cons_append, List.nil_append]
          refine x_iadd Z dX1_begins_31 ?_
          refine x_istore_n (L' := [(2, _), (1, _), (3, _), (0, _)]) Z dX1_begins_32 rfl (Nat.le_of_ble_eq_true rfl) rfl ?_
          refine x_iinc (L' := [(3, _), (2, _), (1, _), (0, _)]) Z dX1_begins_33 rfl (Nat.le_of_ble_eq_true rfl) rfl ?_
          refine x_goto Z 6 dX1_begins_36 (by decide) ?_
          first | exact ih6 (i + 1) _ _ (by omega) ⟨by omega, by omega, by omega, by omega, by rw [← hif, forI_s (i := i) (by omega), bgs_t c16]⟩ | exact ih6 (i + 1) _ _ (by omega) ⟨by omega, by omega, by omega, by omega, by rw [← hif, forI_s (i := i) (by omega), bgs_f c16]⟩
  exact loop6 (n.toNat + 1) 0 0 0 (by omega) ⟨by omega, by omega, by omega, by omega, rfl⟩
abbrev rmc_X1_beginOf : Room := { frames := 5, cells := 0, slots := 0, locals := 110 }
set_option maxRecDepth 100000 in
theorem c_X1_beginOf {l : Launch} {s0 : State} {G : gK} {w : wd} (h0 : gS0 s0) (htr : l.stackTraces = false) {a r bb : Nat} {n : Int} {C B : Int → Int} {k1 : Int} (ht : tX G w a r bb n C B) (hk : inr k1) : gM l s0 G yX1_beginOf [Cond.code yX1_beginOf cX1_beginOf 5 (some .int)] rmc_X1_beginOf [rv a, iv k1] w (fun v w' => ∃ z : Int, v = some (iv z) ∧ w' = w ∧ ((z = pbg n C k1 ∧ 0 ≤ k1 ∧ 0 ≤ z ∧ z < n) ∨ (z = -1 ∧ ¬ (0 ≤ k1 ∧ 0 ≤ pbg n C k1)))) (noX) := by
  refine g_of h0 htr (by decide +kernel) (Nat.le_of_ble_eq_true rfl) ?_
  intro b Z0 E
  have Z : gAm b l s0 G cX1_beginOf RX1 5 rmc_X1_beginOf := Z0
  refine x_el (L' := [(0, rv a), (1, iv k1)]) rfl ?_
  obtain ⟨ha, hr, hb, hn0, hn30, hC⟩ := id ht
  refine x_aload_n Z dX1_beginOf_0 rfl rfl ?_
  refine x_callV (ci := 2) (C := RX1) (T := TX1) (N := 3) Z okX1_begins q117 q118 q119 rfl dX1_beginOf_1 (c_X1_begins h0 htr ht) ht.1 ⟨Nat.le_of_ble_eq_true rfl, Nat.le_of_ble_eq_true rfl, Nat.le_of_ble_eq_true rfl, Nat.le_of_ble_eq_true rfl⟩ rfl rfl (Nat.le_of_ble_eq_true rfl) (fun v9 w9 hR => ?_)
  obtain ⟨rfl, e9⟩ := hR
  refine x_ew e9 ?_
  simp only [Option.toList_some, Option.toList_none, List.cons_append, List.nil_append]
  refine x_istore_n (L' := [(2, _), (0, _), (1, _)]) Z dX1_beginOf_4 rfl (Nat.le_of_ble_eq_true rfl) rfl ?_
  refine x_iconst Z dX1_beginOf_5 ?_
  refine x_istore_n (L' := [(3, _), (2, _), (0, _), (1, _)]) Z dX1_beginOf_6 rfl (Nat.le_of_ble_eq_true rfl) rfl ?_
  refine x_iconst Z dX1_beginOf_7 ?_
  refine x_istore (L' := [(4, _), (3, _), (2, _), (0, _), (1, _)]) Z dX1_beginOf_8 (Nat.le_of_ble_eq_true rfl) rfl ?_
  have loop10 : ∀ (fu : Nat) (i h : Int), n - i < (fu : Int) → (0 ≤ i ∧ i ≤ n ∧ 0 ≤ h ∧ h ≤ i ∧ (∀ a : Nat, a < h.toNat → plc n C a < i) ∧ i ≤ plc n C h.toNat ∧ (k1 < 0 ∨ h ≤ k1)) → gX b s0 G (0) (0) 10 [(4, iv i), (3, iv h), (2, iv (beg n C)), (0, rv a), (1, iv k1)] [] (w) := by
    intro fu; induction fu with
    | zero => intro i h hm hv; exact absurd hm (by omega)
    | succ fu ih10 =>
      intro i h hm hv
      obtain ⟨hi0, hin, hh0, hhi, hb1, hb2, hb3⟩ := hv
      refine x_iload Z dX1_beginOf_10 rfl ?_
      refine x_aload_n Z dX1_beginOf_12 rfl rfl ?_
      refine x_getf (ci := 2) (j := 1) (C := RX1) (T := TX1) (N := 3) Z inX1g rfl (by decide) q73 rfl dX1_beginOf_13 (by assumption) rfl ?_
      refine x_icmp_ge Z 45 dX1_beginOf_16 (by decide) ⟨by omega, by omega⟩ ⟨by omega, by omega⟩ (fun c16 => ?_) (fun c16 => ?_)
      ·
        refine x_iconst Z dX1_beginOf_45 ?_
        exact x_iret Z E (⟨_, rfl, rfl, Or.inr ⟨rfl, pbg_no hh0 hb3 (by omega)⟩⟩) dX1_beginOf_46 (Nat.le_of_ble_eq_true rfl) (Nat.le_of_ble_eq_true rfl)
      ·
        refine x_iload_n Z dX1_beginOf_19 rfl rfl ?_
        refine x_iload Z dX1_beginOf_20 rfl ?_
        refine x_callSN Z okX2_isIn q175 q140 dX1_beginOf_22 (c_X2_isIn h0 htr ) ⟨Nat.le_of_ble_eq_true rfl, Nat.le_of_ble_eq_true rfl, Nat.le_of_ble_eq_true rfl, Nat.le_of_ble_eq_true rfl⟩ rfl rfl (Nat.le_of_ble_eq_true rfl) (fun v9 w9 hR => ?_)
        obtain ⟨rfl, e9⟩ := hR
        refine x_ew e9 ?_
        simp only [Option.toList_some, Option.toList_none, List.cons_append, List.nil_append]
        refine x_ifb_eq Z 39 dX1_beginOf_25 (by decide) (fun c25 => ?_) (fun c25 => ?_)
        ·
          refine x_iinc (L' := [(4, _), (3, _), (2, _), (0, _), (1, _)]) Z dX1_beginOf_39 rfl (Nat.le_of_ble_eq_true rfl) rfl ?_
          refine x_goto Z 10 dX1_beginOf_42 (by decide) ?_
          first | (have ht9 := begT hn0 hn30 hi0 (by omega) hh0 hb1 hb2 c25; exact ih10 (i + 1) (h + 1) (by omega) ⟨by omega, by omega, by omega, by omega, ht9.2.1, ht9.2.2, by omega⟩) | (have ht9 := begF hn0 hn30 hi0 (by omega) hb1 hb2 c25; exact ih10 (i + 1) h (by omega) ⟨by omega, by omega, by omega, by omega, ht9.1, ht9.2, by omega⟩)
        ·
          refine x_iload_n Z dX1_beginOf_28 rfl rfl ?_
          refine x_iload_n Z dX1_beginOf_29 rfl rfl ?_
          refine x_icmp_ne Z 36 dX1_beginOf_30 (by decide) ⟨by omega, by omega⟩ ⟨by omega, by omega⟩ (fun c30 => ?_) (fun c30 => ?_)
          ·
            refine x_iinc (L' := [(3, _), (4, _), (2, _), (0, _), (1, _)]) Z dX1_beginOf_36 rfl (Nat.le_of_ble_eq_true rfl) rfl ?_
            refine x_iinc (L' := [(4, _), (3, _), (2, _), (0, _), (1, _)]) Z dX1_beginOf_39 rfl (Nat.le_of_ble_eq_true rfl) rfl ?_
            refine x_goto Z 10 dX1_beginOf_42 (by decide) ?_
            first | (have ht9 := begT hn0 hn30 hi0 (by omega) hh0 hb1 hb2 c25; exact ih10 (i + 1) (h + 1) (by omega) ⟨by omega, by omega, by omega, by omega, ht9.2.1, ht9.2.2, by omega⟩) | (have ht9 := begF hn0 hn30 hi0 (by omega) hb1 hb2 c25; exact ih10 (i + 1) h (by omega) ⟨by omega, by omega, by omega, by omega, ht9.1, ht9.2, by omega⟩)
          ·
            refine x_iload Z dX1_beginOf_33 rfl ?_
            have ht9 := begT hn0 hn30 hi0 (by omega) hh0 hb1 hb2 c25
            exact x_iret Z E (⟨_, rfl, rfl, Or.inl ⟨(pbg_t (by rw [← c30]; exact ht9.1) (by omega)).symm, by omega, by omega, by omega⟩⟩) dX1_beginOf_35 (Nat.le_of_ble_eq_true rfl) (Nat.le_of_ble_eq_true rfl)
  exact loop10 (n.toNat + 1) 0 0 (by omega) ⟨by omega, by omega, by omega, by omega, fun a ha => absurd ha (Nat.not_lt_zero a), Int.le_refl _, by omega⟩
abbrev rmc_X1_backBegins : Room := { frames := 4, cells := 0, slots := 0, locals := 87 }
set_option maxRecDepth 100000 in
theorem c_X1_backBegins {l : Launch} {s0 : State} {G : gK} {w : wd} (h0 : gS0 s0) (htr : l.stackTraces = false) {a r bb : Nat} {n : Int} {C B : Int → Int} (ht : tX G w a r bb n C B) : gM l s0 G yX1_backBegins [Cond.code yX1_backBegins cX1_backBegins 4 (some .int)] rmc_X1_backBegins [rv a] w (fun v w' => ∃ z : Int, v = some (iv z) ∧ inr z ∧ (∃ h : Nat, bkM n C true h z ∧ bkc n C h = 0) ∧ tB G w a r bb n C w') (noX) := by
  refine g_of h0 htr (by decide +kernel) (Nat.le_of_ble_eq_true rfl) ?_
  intro b Z0 E
  have Z : gAm b l s0 G cX1_backBegins RX1 4 rmc_X1_backBegins := Z0
  refine x_el (L' := [(0, rv a)]) rfl ?_
  obtain ⟨ha, hr, hb, hn0, hn30, hC⟩ := id ht
  refine x_aload_n Z dX1_backBegins_0 rfl rfl ?_
  refine x_getf (ci := 2) (j := 1) (C := RX1) (T := TX1) (N := 3) Z inX1g rfl (by decide) q73 rfl dX1_backBegins_1 (by assumption) rfl ?_
  refine x_iconst Z dX1_backBegins_4 ?_
  refine x_isub Z dX1_backBegins_5 ?_
  refine x_istore_n (L' := [(1, _), (0, _)]) Z dX1_backBegins_6 rfl (Nat.le_of_ble_eq_true rfl) rfl ?_
  have loop7 : ∀ (fu : Nat) (i : Int) (B1 : Int → Int) (w1 : wd), i + 1 < (fu : Int) → (-1 ≤ i ∧ i ≤ n - 1 ∧ (∀ e, i + 1 < e → e ≤ n → B1 e = findI (fun p => decide (e - p ≤ lon n C p)) (i + 1) e) ∧ tX G w1 a r bb n C B1 ∧ fr (tP a r bb) w w1) → gX b s0 G (0) (0) 7 [(1, iv i), (0, rv a)] [] (w1) := by
    intro fu; induction fu with
    | zero => intro i B1 w1 hm hv; exact absurd hm (by omega)
    | succ fu ih7 =>
      intro i B1 w1 hm hv
      obtain ⟨hi0, hin, hB, ht, hf⟩ := hv
      obtain ⟨ha, hr, hb, hn0, hn30, hC⟩ := id ht
      refine x_iload_n Z dX1_backBegins_7 rfl rfl ?_
      refine x_if_lt Z 47 dX1_backBegins_8 (by decide) ⟨by omega, by omega⟩ (fun c8 => ?_) (fun c8 => ?_)
      ·
        refine x_iconst Z dX1_backBegins_47 ?_
        refine x_istore_n (L' := [(1, _), (0, _)]) Z dX1_backBegins_48 rfl (Nat.le_of_ble_eq_true rfl) rfl ?_
        refine x_aload_n Z dX1_backBegins_49 rfl rfl ?_
        refine x_getf (ci := 2) (j := 1) (C := RX1) (T := TX1) (N := 3) Z inX1g rfl (by decide) q73 rfl dX1_backBegins_50 (by assumption) rfl ?_
        refine x_istore_n (L' := [(2, _), (1, _), (0, _)]) Z dX1_backBegins_53 rfl (Nat.le_of_ble_eq_true rfl) rfl ?_
        refine x_aload_n Z dX1_backBegins_54 rfl rfl ?_
        refine x_getf (ci := 2) (j := 1) (C := RX1) (T := TX1) (N := 3) Z inX1g rfl (by decide) q73 rfl dX1_backBegins_55 (by assumption) rfl ?_
        refine x_istore_n (L' := [(3, _), (2, _), (1, _), (0, _)]) Z dX1_backBegins_58 rfl (Nat.le_of_ble_eq_true rfl) rfl ?_
        have loop59 : ∀ (fu : Nat) (e g v : Int), e < (fu : Int) → (0 ≤ e ∧ e ≤ n ∧ 0 ≤ g ∧ g ≤ e ∧ inr v ∧ ∃ h : Nat, g = bkc n C h ∧ bkM n C true h v) → gX b s0 G (0) (0) 59 [(3, iv e), (2, iv g), (1, iv v), (0, rv a)] [] (w1) := by
          intro fu; induction fu with
          | zero => intro e g v hm hv; exact absurd hm (by omega)
          | succ fu ih59 =>
            intro e g v hm hv
            obtain ⟨he0, hen, hg0, hge, hvr, hh⟩ := hv
            refine x_iload_n Z dX1_backBegins_59 rfl rfl ?_
            refine x_if_le Z 87 dX1_backBegins_60 (by decide) ⟨by omega, by omega⟩ (fun c60 => ?_) (fun c60 => ?_)
            ·
              refine x_iload_n Z dX1_backBegins_87 rfl rfl ?_
              obtain ⟨h, eg, hm⟩ := hh
              exact x_iret Z E (⟨_, rfl, hvr, ⟨h, hm, by omega⟩, _, ht, hf⟩) dX1_backBegins_88 (Nat.le_of_ble_eq_true rfl) (Nat.le_of_ble_eq_true rfl)
            ·
              refine x_iload_n Z dX1_backBegins_63 rfl rfl ?_
              refine x_iload_n Z dX1_backBegins_64 rfl rfl ?_
              refine x_icmp_ne Z 81 dX1_backBegins_65 (by decide) ⟨by omega, by omega⟩ ⟨by omega, by omega⟩ (fun c65 => ?_) (fun c65 => ?_)
              ·
                refine x_iinc (L' := [(3, _), (2, _), (1, _), (0, _)]) Z dX1_backBegins_81 rfl (Nat.le_of_ble_eq_true rfl) rfl ?_
                refine x_goto Z 59 dX1_backBegins_84 (by decide) ?_
                first | exact ih59 (e + -1) _ _ (by omega) ⟨by omega, by omega, by omega, by omega, bOr_in _ _, hk9⟩ | exact ih59 (e + -1) _ _ (by omega) ⟨by omega, by omega, by omega, by omega, hvr, hh⟩
              ·
                refine x_aload_n Z dX1_backBegins_68 rfl rfl ?_
                refine x_getf (ci := 2) (j := 2) (C := RX1) (T := TX1) (N := 3) Z inX1g rfl (by decide) q74 rfl dX1_backBegins_69 (by assumption) rfl ?_
                refine x_iload_n Z dX1_backBegins_72 rfl rfl ?_
                refine x_iald Z dX1_backBegins_73 (by assumption) (by omega) (by omega) (by omega) ?_
                have hbk := bk_in (n := n) (C := C) (e := e) (by omega) (by omega)
                refine x_tp (y := bk n C e) (by have h := hB e (by omega) (by omega); rw [show i + 1 = 0 by omega] at h; exact h) ?_
                obtain ⟨h, eg, hm⟩ := hh
                have hbs : bkc n C (h + 1) = bk n C e := by rw [bkc_s (by omega), ← eg, c65]
                have hk9 : ∃ h2 : Nat, bk n C e = bkc n C h2 ∧ bkM n C true h2 (bOr v (bShl 1 (bk n C e))) := ⟨h + 1, hbs.symm, bkM_s hm (by omega) (by omega) (Or.inl rfl) hbs⟩
                refine x_istore_n (L' := [(2, _), (3, _), (1, _), (0, _)]) Z dX1_backBegins_74 rfl (Nat.le_of_ble_eq_true rfl) rfl ?_
                refine x_iload_n Z dX1_backBegins_75 rfl rfl ?_
                refine x_iconst Z dX1_backBegins_76 ?_
                refine x_iload_n Z dX1_backBegins_77 rfl rfl ?_
                refine x_ishl Z dX1_backBegins_78 ?_
                refine x_ior Z dX1_backBegins_79 ?_
                refine x_istore_n (L' := [(1, _), (2, _), (3, _), (0, _)]) Z dX1_backBegins_80 rfl (Nat.le_of_ble_eq_true rfl) rfl ?_
                refine x_iinc (L' := [(3, _), (1, _), (2, _), (0, _)]) Z dX1_backBegins_81 rfl (Nat.le_of_ble_eq_true rfl) rfl ?_
                refine x_goto Z 59 dX1_backBegins_84 (by decide) ?_
                refine x_sub [0, 2, 1, 3] rfl ?_
                first | exact ih59 (e + -1) _ _ (by omega) ⟨by omega, by omega, by omega, by omega, bOr_in _ _, hk9⟩ | exact ih59 (e + -1) _ _ (by omega) ⟨by omega, by omega, by omega, by omega, hvr, hh⟩
        exact loop59 (n.toNat + 1) n n 0 (by omega) ⟨by omega, by omega, by omega, by omega, ⟨by decide, by decide⟩, 0, rfl, bkM_0⟩
      ·
        have hlo := lon_in (n := n) (C := C) (p := i) (by omega)
        refine x_iload_n Z dX1_backBegins_11 rfl rfl ?_
        refine x_aload_n Z dX1_backBegins_12 rfl rfl ?_
        refine x_iload_n Z dX1_backBegins_13 rfl rfl ?_
        refine x_callV (ci := 2) (C := RX1) (T := TX1) (N := 3) Z okX1_longestAt q121 q122 q123 rfl dX1_backBegins_14 (c_X1_longestAt h0 htr ht (by omega) (by omega)) ht.1 ⟨Nat.le_of_ble_eq_true rfl, Nat.le_of_ble_eq_true rfl, Nat.le_of_ble_eq_true rfl, Nat.le_of_ble_eq_true rfl⟩ rfl rfl (Nat.le_of_ble_eq_true rfl) (fun v9 w9 hR => ?_)
        obtain ⟨rfl, e9⟩ := hR
        refine x_ew e9 ?_
        simp only [Option.toList_some, Option.toList_none, List.cons_append, List.nil_append]
        refine x_iadd Z dX1_backBegins_17 ?_
        refine x_istore_n (L' := [(2, _), (1, _), (0, _)]) Z dX1_backBegins_18 rfl (Nat.le_of_ble_eq_true rfl) rfl ?_
        refine x_iload_n Z dX1_backBegins_19 rfl rfl ?_
        refine x_iconst Z dX1_backBegins_20 ?_
        refine x_iadd Z dX1_backBegins_21 ?_
        refine x_istore_n (L' := [(3, _), (2, _), (1, _), (0, _)]) Z dX1_backBegins_22 rfl (Nat.le_of_ble_eq_true rfl) rfl ?_
        have loop23 : ∀ (fu : Nat) (e : Int) (B2 : Int → Int) (w2 : wd), i + lon n C i + 1 - e < (fu : Int) → (i + 1 ≤ e ∧ e ≤ i + lon n C i + 1 ∧ (∀ j, i + 1 ≤ j → j < e → B2 j = i) ∧ (∀ j, e ≤ j → j ≤ n → i + 1 < j → B2 j = findI (fun p => decide (j - p ≤ lon n C p)) (i + 1) j) ∧ tX G w2 a r bb n C B2 ∧ fr (tP a r bb) w w2) → gX b s0 G (0) (0) 23 [(3, iv e), (2, iv (i + lon n C i)), (1, iv i), (0, rv a)] [] (w2) := by
          intro fu; induction fu with
          | zero => intro e B2 w2 hm hv; exact absurd hm (by omega)
          | succ fu ih23 =>
            intro e B2 w2 hm hv
            obtain ⟨he0, hen, hB1, hB2, ht, hf⟩ := hv
            obtain ⟨ha, hr, hb, hn0, hn30, hC⟩ := id ht
            refine x_iload_n Z dX1_backBegins_23 rfl rfl ?_
            refine x_iload_n Z dX1_backBegins_24 rfl rfl ?_
            refine x_icmp_gt Z 41 dX1_backBegins_25 (by decide) ⟨by omega, by omega⟩ ⟨by omega, by omega⟩ (fun c25 => ?_) (fun c25 => ?_)
            ·
              refine x_iinc (L' := [(1, _), (3, _), (2, _), (0, _)]) Z dX1_backBegins_41 rfl (Nat.le_of_ble_eq_true rfl) rfl ?_
              refine x_goto Z 7 dX1_backBegins_44 (by decide) ?_
              refine x_sub [0, 3] rfl ?_
              have hBn : ∀ j, i + -1 + 1 < j → j ≤ n → B2 j = findI (fun p => decide (j - p ≤ lon n C p)) (i + -1 + 1) j := by
                intro j j1 j2
                rw [show i + -1 + 1 = i by omega]
                rcases (by omega : j < e ∨ e ≤ j) with q | q
                · rw [hB1 j (by omega) q, findI_h (P := fun p => decide (j - p ≤ lon n C p)) (i := i) (n := j) (decide_eq_true (show j - i ≤ lon n C i by omega))]
                · rw [findI_m (P := fun p => decide (j - p ≤ lon n C p)) (i := i) (n := j) (by omega) (decide_eq_false (show ¬ j - i ≤ lon n C i by omega)), hB2 j q j2 (by omega)]
              exact ih7 (i + -1) _ _ (by omega) ⟨by omega, by omega, hBn, ht, hf⟩
            ·
              refine x_aload_n Z dX1_backBegins_28 rfl rfl ?_
              refine x_getf (ci := 2) (j := 2) (C := RX1) (T := TX1) (N := 3) Z inX1g rfl (by decide) q74 rfl dX1_backBegins_29 (by assumption) rfl ?_
              refine x_iload_n Z dX1_backBegins_32 rfl rfl ?_
              refine x_iload_n Z dX1_backBegins_33 rfl rfl ?_
              refine x_iast Z dX1_backBegins_34 (by assumption) (by omega) (by omega) (by omega) ?_
              refine x_iinc (L' := [(3, _), (2, _), (1, _), (0, _)]) Z dX1_backBegins_35 rfl (Nat.le_of_ble_eq_true rfl) rfl ?_
              refine x_goto Z 23 dX1_backBegins_38 (by decide) ?_
              exact ih23 (e + 1) _ _ (by omega) ⟨by omega, by omega, fun j j0 j1 => (by (unfold uF; by_cases q : j = e; rw [if_pos q]; rw [if_neg q]; exact hB1 j j0 (by omega))), fun j j0 j1 j2 => (by (rw [uF_n (by omega)]; exact hB2 j (by omega) j1 j2)), ht.by, hf.set tP3⟩
        exact loop23 40 (i + 1) B1 w1 (by omega) ⟨by omega, by omega, fun j j0 j1 => absurd j1 (by omega), fun j _ j1 j2 => hB j j2 j1, ht, hf⟩
  exact loop7 (n.toNat + 1) (n - 1) B w (by omega) ⟨by omega, by omega, fun e e1 e2 => absurd e1 (by omega), ht, fr.rf⟩
abbrev rmc_X1_fewestPieces : Room := { frames := 4, cells := 0, slots := 0, locals := 87 }
set_option maxRecDepth 100000 in
theorem c_X1_fewestPieces {l : Launch} {s0 : State} {G : gK} {w : wd} (h0 : gS0 s0) (htr : l.stackTraces = false) {a r bb : Nat} {n : Int} {C B : Int → Int} (ht : tX G w a r bb n C B) : gM l s0 G yX1_fewestPieces [Cond.code yX1_fewestPieces cX1_fewestPieces 4 (some .int)] rmc_X1_fewestPieces [rv a] w (fun v w' => ∃ z : Int, v = some (iv z) ∧ (0 ≤ z ∧ z ≤ 30) ∧ (∃ B9 : Int → Int, fwP n C B9 ∧ z = B9 n) ∧ tB G w a r bb n C w') (noX) := by
  refine g_of h0 htr (by decide +kernel) (Nat.le_of_ble_eq_true rfl) ?_
  intro b Z0 E
  have Z : gAm b l s0 G cX1_fewestPieces RX1 4 rmc_X1_fewestPieces := Z0
  refine x_el (L' := [(0, rv a)]) rfl ?_
  obtain ⟨ha, hr, hb, hn0, hn30, hC⟩ := id ht
  refine x_iconst Z dX1_fewestPieces_0 ?_
  refine x_istore_n (L' := [(1, _), (0, _)]) Z dX1_fewestPieces_1 rfl (Nat.le_of_ble_eq_true rfl) rfl ?_
  have loop2 : ∀ (fu : Nat) (i : Int) (B1 : Int → Int) (w1 : wd), n + 1 - i < (fu : Int) → (0 ≤ i ∧ i ≤ n + 1 ∧ (∀ j, 0 ≤ j → j < i → B1 j = j) ∧ tX G w1 a r bb n C B1 ∧ fr (tP a r bb) w w1) → gX b s0 G (0) (0) 2 [(1, iv i), (0, rv a)] [] (w1) := by
    intro fu; induction fu with
    | zero => intro i B1 w1 hm hv; exact absurd hm (by omega)
    | succ fu ih2 =>
      intro i B1 w1 hm hv
      obtain ⟨hi0, hin, hB, ht, hf⟩ := hv
      obtain ⟨ha, hr, hb, hn0, hn30, hC⟩ := id ht
      refine x_iload_n Z dX1_fewestPieces_2 rfl rfl ?_
      refine x_aload_n Z dX1_fewestPieces_3 rfl rfl ?_
      refine x_getf (ci := 2) (j := 1) (C := RX1) (T := TX1) (N := 3) Z inX1g rfl (by decide) q73 rfl dX1_fewestPieces_4 (by assumption) rfl ?_
      refine x_icmp_gt Z 23 dX1_fewestPieces_7 (by decide) ⟨by omega, by omega⟩ ⟨by omega, by omega⟩ (fun c7 => ?_) (fun c7 => ?_)
      ·
        refine x_iconst Z dX1_fewestPieces_23 ?_
        refine x_istore_n (L' := [(1, _), (0, _)]) Z dX1_fewestPieces_24 rfl (Nat.le_of_ble_eq_true rfl) rfl ?_
        have loop25 : ∀ (fu : Nat) (i : Int) (B1 : Int → Int) (w1 : wd), n - i < (fu : Int) → (0 ≤ i ∧ i ≤ n ∧ fwC n C B1 i ∧ tX G w1 a r bb n C B1 ∧ fr (tP a r bb) w w1) → gX b s0 G (0) (0) 25 [(1, iv i), (0, rv a)] [] (w1) := by
          intro fu; induction fu with
          | zero => intro i B1 w1 hm hv; exact absurd hm (by omega)
          | succ fu ih25 =>
            intro i B1 w1 hm hv
            obtain ⟨hi0, hin, hfw, ht, hf⟩ := hv
            obtain ⟨ha, hr, hb, hn0, hn30, hC⟩ := id ht
            refine x_iload_n Z dX1_fewestPieces_25 rfl rfl ?_
            refine x_aload_n Z dX1_fewestPieces_26 rfl rfl ?_
            refine x_getf (ci := 2) (j := 1) (C := RX1) (T := TX1) (N := 3) Z inX1g rfl (by decide) q73 rfl dX1_fewestPieces_27 (by assumption) rfl ?_
            refine x_icmp_ge Z 85 dX1_fewestPieces_30 (by decide) ⟨by omega, by omega⟩ ⟨by omega, by omega⟩ (fun c30 => ?_) (fun c30 => ?_)
            ·
              refine x_aload_n Z dX1_fewestPieces_85 rfl rfl ?_
              refine x_getf (ci := 2) (j := 2) (C := RX1) (T := TX1) (N := 3) Z inX1g rfl (by decide) q74 rfl dX1_fewestPieces_86 (by assumption) rfl ?_
              refine x_aload_n Z dX1_fewestPieces_89 rfl rfl ?_
              refine x_getf (ci := 2) (j := 1) (C := RX1) (T := TX1) (N := 3) Z inX1g rfl (by decide) q73 rfl dX1_fewestPieces_90 (by assumption) rfl ?_
              refine x_iald Z dX1_fewestPieces_93 (by assumption) (by omega) (by omega) (by omega) ?_
              have hfp : fwP n C B1 := fwC_n hn0 (by { have h := hfw; rw [show i = n by omega] at h; exact h })
              have hbn := hfw.1 n hn0 (Int.le_refl n)
              exact x_iret Z E (⟨_, rfl, ⟨by omega, by omega⟩, ⟨B1, hfp, rfl⟩, _, ht, hf⟩) dX1_fewestPieces_94 (Nat.le_of_ble_eq_true rfl) (Nat.le_of_ble_eq_true rfl)
            ·
              have hlo := lon_in (n := n) (C := C) (p := i) (by omega)
              refine x_iload_n Z dX1_fewestPieces_33 rfl rfl ?_
              refine x_aload_n Z dX1_fewestPieces_34 rfl rfl ?_
              refine x_iload_n Z dX1_fewestPieces_35 rfl rfl ?_
              refine x_callV (ci := 2) (C := RX1) (T := TX1) (N := 3) Z okX1_longestAt q121 q122 q123 rfl dX1_fewestPieces_36 (c_X1_longestAt h0 htr ht (by omega) (by omega)) ht.1 ⟨Nat.le_of_ble_eq_true rfl, Nat.le_of_ble_eq_true rfl, Nat.le_of_ble_eq_true rfl, Nat.le_of_ble_eq_true rfl⟩ rfl rfl (Nat.le_of_ble_eq_true rfl) (fun v9 w9 hR => ?_)
              obtain ⟨rfl, e9⟩ := hR
              refine x_ew e9 ?_
              simp only [Option.toList_some, Option.toList_none, List.cons_append, List.nil_append]
              refine x_iadd Z dX1_fewestPieces_39 ?_
              refine x_istore_n (L' := [(2, _), (1, _), (0, _)]) Z dX1_fewestPieces_40 rfl (Nat.le_of_ble_eq_true rfl) rfl ?_
              refine x_iload_n Z dX1_fewestPieces_41 rfl rfl ?_
              refine x_iconst Z dX1_fewestPieces_42 ?_
              refine x_iadd Z dX1_fewestPieces_43 ?_
              refine x_istore_n (L' := [(3, _), (2, _), (1, _), (0, _)]) Z dX1_fewestPieces_44 rfl (Nat.le_of_ble_eq_true rfl) rfl ?_
              have loop45 : ∀ (fu : Nat) (e : Int) (B2 : Int → Int) (w2 : wd), i + lon n C i + 1 - e < (fu : Int) → (i + 1 ≤ e ∧ e ≤ i + lon n C i + 1 ∧ fwD n C B2 i e ∧ tX G w2 a r bb n C B2 ∧ fr (tP a r bb) w w2) → gX b s0 G (0) (0) 45 [(3, iv e), (2, iv (i + lon n C i)), (1, iv i), (0, rv a)] [] (w2) := by
                intro fu; induction fu with
                | zero => intro e B2 w2 hm hv; exact absurd hm (by omega)
                | succ fu ih45 =>
                  intro e B2 w2 hm hv
                  obtain ⟨he0, hen, hD, ht, hf⟩ := hv
                  obtain ⟨ha, hr, hb, hn0, hn30, hC⟩ := id ht
                  have hbi := hD.1 i (by omega) (by omega)
                  refine x_iload_n Z dX1_fewestPieces_45 rfl rfl ?_
                  refine x_iload_n Z dX1_fewestPieces_46 rfl rfl ?_
                  refine x_icmp_gt Z 79 dX1_fewestPieces_47 (by decide) ⟨by omega, by omega⟩ ⟨by omega, by omega⟩ (fun c47 => ?_) (fun c47 => ?_)
                  ·
                    refine x_iinc (L' := [(1, _), (3, _), (2, _), (0, _)]) Z dX1_fewestPieces_79 rfl (Nat.le_of_ble_eq_true rfl) rfl ?_
                    refine x_goto Z 25 dX1_fewestPieces_82 (by decide) ?_
                    refine x_sub [0, 3] rfl ?_
                    exact ih25 (i + 1) _ _ (by omega) ⟨by omega, by omega, fwD_e hD (by omega), ht, hf⟩
                  ·
                    refine x_aload_n Z dX1_fewestPieces_50 rfl rfl ?_
                    refine x_getf (ci := 2) (j := 2) (C := RX1) (T := TX1) (N := 3) Z inX1g rfl (by decide) q74 rfl dX1_fewestPieces_51 (by assumption) rfl ?_
                    refine x_iload_n Z dX1_fewestPieces_54 rfl rfl ?_
                    refine x_aload_n Z dX1_fewestPieces_55 rfl rfl ?_
                    refine x_getf (ci := 2) (j := 2) (C := RX1) (T := TX1) (N := 3) Z inX1g rfl (by decide) q74 rfl dX1_fewestPieces_56 (by assumption) rfl ?_
                    refine x_iload_n Z dX1_fewestPieces_59 rfl rfl ?_
                    refine x_iald Z dX1_fewestPieces_60 (by assumption) (by omega) (by omega) (by omega) ?_
                    have hbe := hD.1 e (by omega) (by omega)
                    refine x_aload_n Z dX1_fewestPieces_61 rfl rfl ?_
                    refine x_getf (ci := 2) (j := 2) (C := RX1) (T := TX1) (N := 3) Z inX1g rfl (by decide) q74 rfl dX1_fewestPieces_62 (by assumption) rfl ?_
                    refine x_iload_n Z dX1_fewestPieces_65 rfl rfl ?_
                    refine x_iald Z dX1_fewestPieces_66 (by assumption) (by omega) (by omega) (by omega) ?_
                    refine x_iconst Z dX1_fewestPieces_67 ?_
                    refine x_iadd Z dX1_fewestPieces_68 ?_
                    refine x_mmin Z q168 q169 q51 q170 dX1_fewestPieces_69 ⟨by omega, by omega⟩ ⟨by omega, by omega⟩ (Nat.le_of_ble_eq_true rfl) (Nat.le_of_ble_eq_true rfl) (by exact Nat.le_of_ble_eq_true rfl) (by exact Nat.le_of_ble_eq_true rfl) ?_
                    refine x_iast Z dX1_fewestPieces_72 (by assumption) (by omega) (by omega) (by omega) ?_
                    refine x_iinc (L' := [(3, _), (2, _), (1, _), (0, _)]) Z dX1_fewestPieces_73 rfl (Nat.le_of_ble_eq_true rfl) rfl ?_
                    refine x_goto Z 45 dX1_fewestPieces_76 (by decide) ?_
                    exact ih45 (e + 1) _ _ (by omega) ⟨by omega, by omega, fwD_s hD (by omega) (by omega) (by omega) (by omega), ht.by, hf.set tP3⟩
              exact loop45 40 (i + 1) B1 w1 (by omega) ⟨by omega, by omega, fwD_0 hfw, ht, hf⟩
        exact loop25 (n.toNat + 1) 0 B1 w1 (by omega) ⟨by omega, by omega, fwC_0 (fun e e0 en => hB e e0 (by omega)), ht, hf⟩
      ·
        refine x_aload_n Z dX1_fewestPieces_10 rfl rfl ?_
        refine x_getf (ci := 2) (j := 2) (C := RX1) (T := TX1) (N := 3) Z inX1g rfl (by decide) q74 rfl dX1_fewestPieces_11 (by assumption) rfl ?_
        refine x_iload_n Z dX1_fewestPieces_14 rfl rfl ?_
        refine x_iload_n Z dX1_fewestPieces_15 rfl rfl ?_
        refine x_iast Z dX1_fewestPieces_16 (by assumption) (by omega) (by omega) (by omega) ?_
        refine x_iinc (L' := [(1, _), (0, _)]) Z dX1_fewestPieces_17 rfl (Nat.le_of_ble_eq_true rfl) rfl ?_
        refine x_goto Z 2 dX1_fewestPieces_20 (by decide) ?_
        exact ih2 (i + 1) _ _ (by omega) ⟨by omega, by omega, fun j j0 j1 => (by (unfold uF; by_cases q : j = i; rw [if_pos q, q]; rw [if_neg q]; exact hB j j0 (by omega))), ht.by, hf.set tP3⟩
  exact loop2 (n.toNat + 2) 0 B w (by omega) ⟨by omega, by omega, fun j j0 j1 => absurd j1 (by omega), ht, fr.rf⟩
abbrev rmc_X1_piecesCutAt : Room := { frames := 4, cells := 0, slots := 0, locals := 87 }
set_option maxRecDepth 100000 in
theorem c_X1_piecesCutAt {l : Launch} {s0 : State} {G : gK} {w : wd} (h0 : gS0 s0) (htr : l.stackTraces = false) {a r bb : Nat} {n : Int} {C B : Int → Int} {m : Int} (ht : tX G w a r bb n C B) : gM l s0 G yX1_piecesCutAt [Cond.code yX1_piecesCutAt cX1_piecesCutAt 5 (some .int)] rmc_X1_piecesCutAt [rv a, iv m] w (fun v w' => v = some (iv (ptI n C m 1 0 0)) ∧ w' = w) (noX) := by
  refine g_of h0 htr (by decide +kernel) (Nat.le_of_ble_eq_true rfl) ?_
  intro b Z0 E
  have Z : gAm b l s0 G cX1_piecesCutAt RX1 5 rmc_X1_piecesCutAt := Z0
  refine x_el (L' := [(0, rv a), (1, iv m)]) rfl ?_
  obtain ⟨ha, hr, hb, hn0, hn30, hC⟩ := id ht
  refine x_iconst Z dX1_piecesCutAt_0 ?_
  refine x_istore_n (L' := [(2, _), (0, _), (1, _)]) Z dX1_piecesCutAt_1 rfl (Nat.le_of_ble_eq_true rfl) rfl ?_
  refine x_iconst Z dX1_piecesCutAt_2 ?_
  refine x_istore_n (L' := [(3, _), (2, _), (0, _), (1, _)]) Z dX1_piecesCutAt_3 rfl (Nat.le_of_ble_eq_true rfl) rfl ?_
  refine x_iconst Z dX1_piecesCutAt_4 ?_
  refine x_istore (L' := [(4, _), (3, _), (2, _), (0, _), (1, _)]) Z dX1_piecesCutAt_5 (Nat.le_of_ble_eq_true rfl) rfl ?_
  have loop7 : ∀ (fu : Nat) (i g p : Int), n + 1 - i < (fu : Int) → (1 ≤ i ∧ i ≤ n + 1 ∧ 0 ≤ g ∧ g < i ∧ 0 ≤ p ∧ p ≤ i ∧ ptI n C m i g p = ptI n C m 1 0 0) → gX b s0 G (0) (0) 7 [(4, iv i), (3, iv g), (2, iv p), (0, rv a), (1, iv m)] [] (w) := by
    intro fu; induction fu with
    | zero => intro i g p hm hv; exact absurd hm (by omega)
    | succ fu ih7 =>
      intro i g p hm hv
      obtain ⟨hi0, hin, hg0, hgi, hp0, hpi, hif⟩ := hv
      refine x_iload Z dX1_piecesCutAt_7 rfl ?_
      refine x_aload_n Z dX1_piecesCutAt_9 rfl rfl ?_
      refine x_getf (ci := 2) (j := 1) (C := RX1) (T := TX1) (N := 3) Z inX1g rfl (by decide) q73 rfl dX1_piecesCutAt_10 (by assumption) rfl ?_
      refine x_icmp_gt Z 60 dX1_piecesCutAt_13 (by decide) ⟨by omega, by omega⟩ ⟨by omega, by omega⟩ (fun c13 => ?_) (fun c13 => ?_)
      ·
        refine x_iload_n Z dX1_piecesCutAt_60 rfl rfl ?_
        exact x_iret Z E (⟨by rw [← hif, ptI_e (by omega)], rfl⟩) dX1_piecesCutAt_61 (Nat.le_of_ble_eq_true rfl) (Nat.le_of_ble_eq_true rfl)
      ·
        refine x_iload Z dX1_piecesCutAt_16 rfl ?_
        refine x_aload_n Z dX1_piecesCutAt_18 rfl rfl ?_
        refine x_getf (ci := 2) (j := 1) (C := RX1) (T := TX1) (N := 3) Z inX1g rfl (by decide) q73 rfl dX1_piecesCutAt_19 (by assumption) rfl ?_
        refine x_icmp_eq Z 34 dX1_piecesCutAt_22 (by decide) ⟨by omega, by omega⟩ ⟨by omega, by omega⟩ (fun c22 => ?_) (fun c22 => ?_)
        ·
          refine x_aload_n Z dX1_piecesCutAt_34 rfl rfl ?_
          refine x_iload_n Z dX1_piecesCutAt_35 rfl rfl ?_
          have hlo := lon_in (n := n) (C := C) (p := g) (by omega)
          refine x_callV (ci := 2) (C := RX1) (T := TX1) (N := 3) Z okX1_longestAt q121 q122 q123 rfl dX1_piecesCutAt_36 (c_X1_longestAt h0 htr ht (by omega) (by omega)) ht.1 ⟨Nat.le_of_ble_eq_true rfl, Nat.le_of_ble_eq_true rfl, Nat.le_of_ble_eq_true rfl, Nat.le_of_ble_eq_true rfl⟩ rfl rfl (Nat.le_of_ble_eq_true rfl) (fun v9 w9 hR => ?_)
          obtain ⟨rfl, e9⟩ := hR
          refine x_ew e9 ?_
          simp only [Option.toList_some, Option.toList_none, List.cons_append, List.nil_append]
          refine x_iload Z dX1_piecesCutAt_39 rfl ?_
          refine x_iload_n Z dX1_piecesCutAt_41 rfl rfl ?_
          refine x_isub Z dX1_piecesCutAt_42 ?_
          refine x_icmp_ge Z 48 dX1_piecesCutAt_43 (by decide) ⟨by omega, by omega⟩ ⟨by omega, by omega⟩ (fun c43 => ?_) (fun c43 => ?_)
          ·
            refine x_iinc (L' := [(2, _), (4, _), (3, _), (0, _), (1, _)]) Z dX1_piecesCutAt_48 rfl (Nat.le_of_ble_eq_true rfl) rfl ?_
            refine x_iload Z dX1_piecesCutAt_51 rfl ?_
            refine x_istore_n (L' := [(3, _), (2, _), (4, _), (0, _), (1, _)]) Z dX1_piecesCutAt_53 rfl (Nat.le_of_ble_eq_true rfl) rfl ?_
            refine x_iinc (L' := [(4, _), (3, _), (2, _), (0, _), (1, _)]) Z dX1_piecesCutAt_54 rfl (Nat.le_of_ble_eq_true rfl) rfl ?_
            refine x_goto Z 7 dX1_piecesCutAt_57 (by decide) ?_
            first | exact ih7 (i + 1) i (p + 1) (by omega) ⟨by omega, by omega, by omega, by omega, by omega, by omega, by rw [← hif]; exact (ptI_go (by omega) (by first | exact Or.inl c22 | exact Or.inr c31) (by omega)).symm⟩ | exact ih7 (i + 1) g p (by omega) ⟨by omega, by omega, by omega, by omega, by omega, by omega, by rw [← hif]; exact (ptI_sk (by omega) c31).symm⟩
          ·
            refine x_iconst Z dX1_piecesCutAt_46 ?_
            exact x_iret Z E (⟨by rw [← hif, ptI_no (by omega) (by first | exact Or.inl c22 | exact Or.inr c31) (by omega)], rfl⟩) dX1_piecesCutAt_47 (Nat.le_of_ble_eq_true rfl) (Nat.le_of_ble_eq_true rfl)
        ·
          refine x_iload_n Z dX1_piecesCutAt_25 rfl rfl ?_
          refine x_iload Z dX1_piecesCutAt_26 rfl ?_
          refine x_callSN Z okX2_isIn q175 q140 dX1_piecesCutAt_28 (c_X2_isIn h0 htr ) ⟨Nat.le_of_ble_eq_true rfl, Nat.le_of_ble_eq_true rfl, Nat.le_of_ble_eq_true rfl, Nat.le_of_ble_eq_true rfl⟩ rfl rfl (Nat.le_of_ble_eq_true rfl) (fun v9 w9 hR => ?_)
          obtain ⟨rfl, e9⟩ := hR
          refine x_ew e9 ?_
          simp only [Option.toList_some, Option.toList_none, List.cons_append, List.nil_append]
          refine x_ifb_eq Z 54 dX1_piecesCutAt_31 (by decide) (fun c31 => ?_) (fun c31 => ?_)
          ·
            refine x_iinc (L' := [(4, _), (3, _), (2, _), (0, _), (1, _)]) Z dX1_piecesCutAt_54 rfl (Nat.le_of_ble_eq_true rfl) rfl ?_
            refine x_goto Z 7 dX1_piecesCutAt_57 (by decide) ?_
            first | exact ih7 (i + 1) i (p + 1) (by omega) ⟨by omega, by omega, by omega, by omega, by omega, by omega, by rw [← hif]; exact (ptI_go (by omega) (by first | exact Or.inl c22 | exact Or.inr c31) (by omega)).symm⟩ | exact ih7 (i + 1) g p (by omega) ⟨by omega, by omega, by omega, by omega, by omega, by omega, by rw [← hif]; exact (ptI_sk (by omega) c31).symm⟩
          ·
            refine x_aload_n Z dX1_piecesCutAt_34 rfl rfl ?_
            refine x_iload_n Z dX1_piecesCutAt_35 rfl rfl ?_
            have hlo := lon_in (n := n) (C := C) (p := g) (by omega)
            refine x_callV (ci := 2) (C := RX1) (T := TX1) (N := 3) Z okX1_longestAt q121 q122 q123 rfl dX1_piecesCutAt_36 (c_X1_longestAt h0 htr ht (by omega) (by omega)) ht.1 ⟨Nat.le_of_ble_eq_true rfl, Nat.le_of_ble_eq_true rfl, Nat.le_of_ble_eq_true rfl, Nat.le_of_ble_eq_true rfl⟩ rfl rfl (Nat.le_of_ble_eq_true rfl) (fun v9 w9 hR => ?_)
            obtain ⟨rfl, e9⟩ := hR
            refine x_ew e9 ?_
            simp only [Option.toList_some, Option.toList_none, List.cons_append, List.nil_append]
            refine x_iload Z dX1_piecesCutAt_39 rfl ?_
            refine x_iload_n Z dX1_piecesCutAt_41 rfl rfl ?_
            refine x_isub Z dX1_piecesCutAt_42 ?_
            refine x_icmp_ge Z 48 dX1_piecesCutAt_43 (by decide) ⟨by omega, by omega⟩ ⟨by omega, by omega⟩ (fun c43 => ?_) (fun c43 => ?_)
            ·
              refine x_iinc (L' := [(2, _), (4, _), (3, _), (0, _), (1, _)]) Z dX1_piecesCutAt_48 rfl (Nat.le_of_ble_eq_true rfl) rfl ?_
              refine x_iload Z dX1_piecesCutAt_51 rfl ?_
              refine x_istore_n (L' := [(3, _), (2, _), (4, _), (0, _), (1, _)]) Z dX1_piecesCutAt_53 rfl (Nat.le_of_ble_eq_true rfl) rfl ?_
              refine x_iinc (L' := [(4, _), (3, _), (2, _), (0, _), (1, _)]) Z dX1_piecesCutAt_54 rfl (Nat.le_of_ble_eq_true rfl) rfl ?_
              refine x_goto Z 7 dX1_piecesCutAt_57 (by decide) ?_
              first | exact ih7 (i + 1) i (p + 1) (by omega) ⟨by omega, by omega, by omega, by omega, by omega, by omega, by rw [← hif]; exact (ptI_go (by omega) (by first | exact Or.inl c22 | exact Or.inr c31) (by omega)).symm⟩ | exact ih7 (i + 1) g p (by omega) ⟨by omega, by omega, by omega, by omega, by omega, by omega, by rw [← hif]; exact (ptI_sk (by omega) c31).symm⟩
            ·
              refine x_iconst Z dX1_piecesCutAt_46 ?_
              exact x_iret Z E (⟨by rw [← hif, ptI_no (by omega) (by first | exact Or.inl c22 | exact Or.inr c31) (by omega)], rfl⟩) dX1_piecesCutAt_47 (Nat.le_of_ble_eq_true rfl) (Nat.le_of_ble_eq_true rfl)
  exact loop7 (n.toNat + 2) 1 0 0 (by omega) ⟨by omega, by omega, by omega, by omega, by omega, by omega, rfl⟩
abbrev rmc_X1_isTextSound : Room := { frames := 5, cells := 0, slots := 0, locals := 111 }
set_option maxRecDepth 100000 in
theorem c_X1_isTextSound {l : Launch} {s0 : State} {G : gK} {w : wd} (h0 : gS0 s0) (htr : l.stackTraces = false) {a r bb : Nat} {n : Int} {C B : Int → Int} (ht : tX G w a r bb n C B) : gM l s0 G yX1_isTextSound [Cond.code yX1_isTextSound cX1_isTextSound 3 (some .boolean)] rmc_X1_isTextSound [rv a] w (fun v w' => ∃ q : Bool, v = some (iv (b2 q)) ∧ (q = true ↔ SND n C) ∧ tB G w a r bb n C w') (noX) := by
  refine g_of h0 htr (by decide +kernel) (Nat.le_of_ble_eq_true rfl) ?_
  intro b Z0 E
  have Z : gAm b l s0 G cX1_isTextSound RX1 3 rmc_X1_isTextSound := Z0
  refine x_el (L' := [(0, rv a)]) rfl ?_
  obtain ⟨ha, hr, hb, hn0, hn30, hC⟩ := id ht
  have hf : fr (tP a r bb) w w := fr.rf
  have hbi := bAnd_in (beg n C) (-2)
  have hbc := bcn_in (beg n C)
  refine x_aload_n Z dX1_isTextSound_0 rfl rfl ?_
  refine x_callV (ci := 2) (C := RX1) (T := TX1) (N := 3) Z okX1_begins q117 q118 q119 rfl dX1_isTextSound_1 (c_X1_begins h0 htr ht) ht.1 ⟨Nat.le_of_ble_eq_true rfl, Nat.le_of_ble_eq_true rfl, Nat.le_of_ble_eq_true rfl, Nat.le_of_ble_eq_true rfl⟩ rfl rfl (Nat.le_of_ble_eq_true rfl) (fun v9 w9 hR => ?_)
  obtain ⟨rfl, e9⟩ := hR
  refine x_ew e9 ?_
  simp only [Option.toList_some, Option.toList_none, List.cons_append, List.nil_append]
  refine x_callSN Z okX2_cutsOf q151 q152 dX1_isTextSound_4 (c_X2_cutsOf h0 htr ) ⟨Nat.le_of_ble_eq_true rfl, Nat.le_of_ble_eq_true rfl, Nat.le_of_ble_eq_true rfl, Nat.le_of_ble_eq_true rfl⟩ rfl rfl (Nat.le_of_ble_eq_true rfl) (fun v9 w9 hR => ?_)
  obtain ⟨rfl, e9⟩ := hR
  refine x_ew e9 ?_
  simp only [Option.toList_some, Option.toList_none, List.cons_append, List.nil_append]
  refine x_istore_n (L' := [(1, _), (0, _)]) Z dX1_isTextSound_7 rfl (Nat.le_of_ble_eq_true rfl) rfl ?_
  refine x_aload_n Z dX1_isTextSound_8 rfl rfl ?_
  refine x_callV (ci := 2) (C := RX1) (T := TX1) (N := 3) Z okX1_begins q117 q118 q119 rfl dX1_isTextSound_9 (c_X1_begins h0 htr ht) ht.1 ⟨Nat.le_of_ble_eq_true rfl, Nat.le_of_ble_eq_true rfl, Nat.le_of_ble_eq_true rfl, Nat.le_of_ble_eq_true rfl⟩ rfl rfl (Nat.le_of_ble_eq_true rfl) (fun v9 w9 hR => ?_)
  obtain ⟨rfl, e9⟩ := hR
  refine x_ew e9 ?_
  simp only [Option.toList_some, Option.toList_none, List.cons_append, List.nil_append]
  refine x_callS Z okJ6_bitCount_0f7a4 q154 q155 dX1_isTextSound_12 (c_J6_bitCount_0f7a4 h0 htr ) ⟨Nat.le_of_ble_eq_true rfl, Nat.le_of_ble_eq_true rfl, Nat.le_of_ble_eq_true rfl, Nat.le_of_ble_eq_true rfl⟩ rfl rfl (Nat.le_of_ble_eq_true rfl) (fun v9 w9 hR => ?_)
  obtain ⟨rfl, e9⟩ := hR
  refine x_ew e9 ?_
  simp only [Option.toList_some, Option.toList_none, List.cons_append, List.nil_append]
  refine x_istore_n (L' := [(2, _), (1, _), (0, _)]) Z dX1_isTextSound_15 rfl (Nat.le_of_ble_eq_true rfl) rfl ?_
  refine x_aload_n Z dX1_isTextSound_16 rfl rfl ?_
  refine x_getf (ci := 2) (j := 1) (C := RX1) (T := TX1) (N := 3) Z inX1g rfl (by decide) q73 rfl dX1_isTextSound_17 (by assumption) rfl ?_
  refine x_bipush Z dX1_isTextSound_20 (by decide +kernel) ?_
  refine x_icmp_gt Z 77 dX1_isTextSound_22 (by decide) ⟨by omega, by omega⟩ ⟨by omega, by omega⟩ (fun c22 => ?_) (fun c22 => ?_)
  · exact absurd c22 (by omega)
  ·
    refine x_iload_n Z dX1_isTextSound_25 rfl rfl ?_
    refine x_aload_n Z dX1_isTextSound_26 rfl rfl ?_
    refine x_callV (ci := 2) (C := RX1) (T := TX1) (N := 3) Z okX1_backBegins q160 q161 q162 rfl dX1_isTextSound_27 (c_X1_backBegins h0 htr ht) ht.1 ⟨Nat.le_of_ble_eq_true rfl, Nat.le_of_ble_eq_true rfl, Nat.le_of_ble_eq_true rfl, Nat.le_of_ble_eq_true rfl⟩ rfl rfl (Nat.le_of_ble_eq_true rfl) (fun v9 w9 hR => ?_)
    obtain ⟨z, rfl, hz, hzk, B, ht, hf9⟩ := hR
    obtain ⟨ha, hr, hb, hn0, hn30, hC⟩ := id ht
    simp only [Option.toList_some, Option.toList_none, List.cons_append, List.nil_append]
    have hf := hf.tr hf9
    refine x_callSN Z okX2_cutsOf q151 q152 dX1_isTextSound_30 (c_X2_cutsOf h0 htr ) ⟨Nat.le_of_ble_eq_true rfl, Nat.le_of_ble_eq_true rfl, Nat.le_of_ble_eq_true rfl, Nat.le_of_ble_eq_true rfl⟩ rfl rfl (Nat.le_of_ble_eq_true rfl) (fun v9 w9 hR => ?_)
    obtain ⟨rfl, e9⟩ := hR
    refine x_ew e9 ?_
    simp only [Option.toList_some, Option.toList_none, List.cons_append, List.nil_append]
    have hz3 := bAnd_in z (-2)
    have hbk : bkV n C (bAnd z (-2)) := ⟨bAnd_in _ _, hzk.imp (fun _ e => ⟨bkM_c e.1, e.2⟩)⟩
    refine x_icmp_ne Z 77 dX1_isTextSound_33 (by decide) ⟨by omega, by omega⟩ ⟨by omega, by omega⟩ (fun c33 => ?_) (fun c33 => ?_)
    ·
      refine x_ib false Z dX1_isTextSound_77 (by decide) ?_
      exact x_zret Z E (by first | exact ⟨_, rfl, ⟨fun _ => SND_t hn0 hbk hfv c33 c41 c50 (c70.trans (decide_eq_true c62).symm), fun _ => rfl⟩, _, ht, hf⟩ | exact ⟨_, rfl, ⟨fun _ => SND_t hn0 hbk hfv c33 c41 c50 (c70.trans (decide_eq_false c62).symm), fun _ => rfl⟩, _, ht, hf⟩ | exact ⟨_, rfl, ⟨fun h => absurd h (by decide), fun h => absurd (h.1 _ hbk) c33⟩, _, ht, hf⟩ | exact ⟨_, rfl, ⟨fun h => absurd h (by decide), fun h => absurd (h.2.1 _ hfv) c41⟩, _, ht, hf⟩ | exact ⟨_, rfl, ⟨fun h => absurd h (by decide), fun h => absurd (h.2.2.1) c50⟩, _, ht, hf⟩ | exact ⟨_, rfl, ⟨fun h => absurd h (by decide), fun h => absurd (h.2.2.2.trans (decide_eq_true c62)) c70⟩, _, ht, hf⟩ | exact ⟨_, rfl, ⟨fun h => absurd h (by decide), fun h => absurd (h.2.2.2.trans (decide_eq_false c62)) c70⟩, _, ht, hf⟩) dX1_isTextSound_78 (Nat.le_of_ble_eq_true rfl) (Nat.le_of_ble_eq_true rfl)
    ·
      refine x_iload_n Z dX1_isTextSound_36 rfl rfl ?_
      refine x_aload_n Z dX1_isTextSound_37 rfl rfl ?_
      refine x_callV (ci := 2) (C := RX1) (T := TX1) (N := 3) Z okX1_fewestPieces q164 q165 q166 rfl dX1_isTextSound_38 (c_X1_fewestPieces h0 htr ht) ht.1 ⟨Nat.le_of_ble_eq_true rfl, Nat.le_of_ble_eq_true rfl, Nat.le_of_ble_eq_true rfl, Nat.le_of_ble_eq_true rfl⟩ rfl rfl (Nat.le_of_ble_eq_true rfl) (fun v9 w9 hR => ?_)
      obtain ⟨z, rfl, hz, hzf, B, ht, hf9⟩ := hR
      obtain ⟨ha, hr, hb, hn0, hn30, hC⟩ := id ht
      simp only [Option.toList_some, Option.toList_none, List.cons_append, List.nil_append]
      have hf := hf.tr hf9
      have hfv : fwV n C z := hzf
      refine x_icmp_ne Z 77 dX1_isTextSound_41 (by decide) ⟨by omega, by omega⟩ ⟨by omega, by omega⟩ (fun c41 => ?_) (fun c41 => ?_)
      ·
        refine x_ib false Z dX1_isTextSound_77 (by decide) ?_
        exact x_zret Z E (by first | exact ⟨_, rfl, ⟨fun _ => SND_t hn0 hbk hfv c33 c41 c50 (c70.trans (decide_eq_true c62).symm), fun _ => rfl⟩, _, ht, hf⟩ | exact ⟨_, rfl, ⟨fun _ => SND_t hn0 hbk hfv c33 c41 c50 (c70.trans (decide_eq_false c62).symm), fun _ => rfl⟩, _, ht, hf⟩ | exact ⟨_, rfl, ⟨fun h => absurd h (by decide), fun h => absurd (h.1 _ hbk) c33⟩, _, ht, hf⟩ | exact ⟨_, rfl, ⟨fun h => absurd h (by decide), fun h => absurd (h.2.1 _ hfv) c41⟩, _, ht, hf⟩ | exact ⟨_, rfl, ⟨fun h => absurd h (by decide), fun h => absurd (h.2.2.1) c50⟩, _, ht, hf⟩ | exact ⟨_, rfl, ⟨fun h => absurd h (by decide), fun h => absurd (h.2.2.2.trans (decide_eq_true c62)) c70⟩, _, ht, hf⟩ | exact ⟨_, rfl, ⟨fun h => absurd h (by decide), fun h => absurd (h.2.2.2.trans (decide_eq_false c62)) c70⟩, _, ht, hf⟩) dX1_isTextSound_78 (Nat.le_of_ble_eq_true rfl) (Nat.le_of_ble_eq_true rfl)
      ·
        refine x_iload_n Z dX1_isTextSound_44 rfl rfl ?_
        refine x_aload_n Z dX1_isTextSound_45 rfl rfl ?_
        refine x_iload_n Z dX1_isTextSound_46 rfl rfl ?_
        refine x_callV (ci := 2) (C := RX1) (T := TX1) (N := 3) Z okX1_piecesCutAt q171 q172 q173 rfl dX1_isTextSound_47 (c_X1_piecesCutAt h0 htr ht) ht.1 ⟨Nat.le_of_ble_eq_true rfl, Nat.le_of_ble_eq_true rfl, Nat.le_of_ble_eq_true rfl, Nat.le_of_ble_eq_true rfl⟩ rfl rfl (Nat.le_of_ble_eq_true rfl) (fun v9 w9 hR => ?_)
        obtain ⟨rfl, e9⟩ := hR
        refine x_ew e9 ?_
        simp only [Option.toList_some, Option.toList_none, List.cons_append, List.nil_append]
        have hpt := pt_in (n := n) (C := C) (m := bAnd (beg n C) (-2)) hn0
        refine x_icmp_ne Z 77 dX1_isTextSound_50 (by decide) ⟨by omega, by omega⟩ ⟨by omega, by omega⟩ (fun c50 => ?_) (fun c50 => ?_)
        ·
          refine x_ib false Z dX1_isTextSound_77 (by decide) ?_
          exact x_zret Z E (by first | exact ⟨_, rfl, ⟨fun _ => SND_t hn0 hbk hfv c33 c41 c50 (c70.trans (decide_eq_true c62).symm), fun _ => rfl⟩, _, ht, hf⟩ | exact ⟨_, rfl, ⟨fun _ => SND_t hn0 hbk hfv c33 c41 c50 (c70.trans (decide_eq_false c62).symm), fun _ => rfl⟩, _, ht, hf⟩ | exact ⟨_, rfl, ⟨fun h => absurd h (by decide), fun h => absurd (h.1 _ hbk) c33⟩, _, ht, hf⟩ | exact ⟨_, rfl, ⟨fun h => absurd h (by decide), fun h => absurd (h.2.1 _ hfv) c41⟩, _, ht, hf⟩ | exact ⟨_, rfl, ⟨fun h => absurd h (by decide), fun h => absurd (h.2.2.1) c50⟩, _, ht, hf⟩ | exact ⟨_, rfl, ⟨fun h => absurd h (by decide), fun h => absurd (h.2.2.2.trans (decide_eq_true c62)) c70⟩, _, ht, hf⟩ | exact ⟨_, rfl, ⟨fun h => absurd h (by decide), fun h => absurd (h.2.2.2.trans (decide_eq_false c62)) c70⟩, _, ht, hf⟩) dX1_isTextSound_78 (Nat.le_of_ble_eq_true rfl) (Nat.le_of_ble_eq_true rfl)
        ·
          refine x_aload_n Z dX1_isTextSound_53 rfl rfl ?_
          refine x_callV (ci := 2) (C := RX1) (T := TX1) (N := 3) Z okX1_isNamed q176 q177 q178 rfl dX1_isTextSound_54 (c_X1_isNamed h0 htr ht) ht.1 ⟨Nat.le_of_ble_eq_true rfl, Nat.le_of_ble_eq_true rfl, Nat.le_of_ble_eq_true rfl, Nat.le_of_ble_eq_true rfl⟩ rfl rfl (Nat.le_of_ble_eq_true rfl) (fun v9 w9 hR => ?_)
          obtain ⟨rfl, e9⟩ := hR
          refine x_ew e9 ?_
          simp only [Option.toList_some, Option.toList_none, List.cons_append, List.nil_append]
          refine x_aload_n Z dX1_isTextSound_57 rfl rfl ?_
          refine x_callV (ci := 2) (C := RX1) (T := TX1) (N := 3) Z okX1_firstFault q180 q181 q182 rfl dX1_isTextSound_58 (c_X1_firstFault h0 htr ht) ht.1 ⟨Nat.le_of_ble_eq_true rfl, Nat.le_of_ble_eq_true rfl, Nat.le_of_ble_eq_true rfl, Nat.le_of_ble_eq_true rfl⟩ rfl rfl (Nat.le_of_ble_eq_true rfl) (fun v9 w9 hR => ?_)
          obtain ⟨rfl, e9⟩ := hR
          refine x_ew e9 ?_
          simp only [Option.toList_some, Option.toList_none, List.cons_append, List.nil_append]
          refine x_iconst Z dX1_isTextSound_61 ?_
          have hfi := findI_in (P := fun j => !so (C j) (cond (decide (j = 0)) 11 12)) (i := 0) (n := n) (by omega)
          refine x_icmp_ne Z 69 dX1_isTextSound_62 (by decide) ⟨by omega, by omega⟩ ⟨by omega, by omega⟩ (fun c62 => ?_) (fun c62 => ?_)
          ·
            refine x_ib false Z dX1_isTextSound_69 (by decide) ?_
            refine x_icmpb_ne Z 77 dX1_isTextSound_70 (by decide) (fun c70 => ?_) (fun c70 => ?_)
            ·
              refine x_ib false Z dX1_isTextSound_77 (by decide) ?_
              exact x_zret Z E (by first | exact ⟨_, rfl, ⟨fun _ => SND_t hn0 hbk hfv c33 c41 c50 (c70.trans (decide_eq_true c62).symm), fun _ => rfl⟩, _, ht, hf⟩ | exact ⟨_, rfl, ⟨fun _ => SND_t hn0 hbk hfv c33 c41 c50 (c70.trans (decide_eq_false c62).symm), fun _ => rfl⟩, _, ht, hf⟩ | exact ⟨_, rfl, ⟨fun h => absurd h (by decide), fun h => absurd (h.1 _ hbk) c33⟩, _, ht, hf⟩ | exact ⟨_, rfl, ⟨fun h => absurd h (by decide), fun h => absurd (h.2.1 _ hfv) c41⟩, _, ht, hf⟩ | exact ⟨_, rfl, ⟨fun h => absurd h (by decide), fun h => absurd (h.2.2.1) c50⟩, _, ht, hf⟩ | exact ⟨_, rfl, ⟨fun h => absurd h (by decide), fun h => absurd (h.2.2.2.trans (decide_eq_true c62)) c70⟩, _, ht, hf⟩ | exact ⟨_, rfl, ⟨fun h => absurd h (by decide), fun h => absurd (h.2.2.2.trans (decide_eq_false c62)) c70⟩, _, ht, hf⟩) dX1_isTextSound_78 (Nat.le_of_ble_eq_true rfl) (Nat.le_of_ble_eq_true rfl)
            ·
              refine x_ib true Z dX1_isTextSound_73 (by decide) ?_
              refine x_goto Z 78 dX1_isTextSound_74 (by decide) ?_
              exact x_zret Z E (by first | exact ⟨_, rfl, ⟨fun _ => SND_t hn0 hbk hfv c33 c41 c50 (c70.trans (decide_eq_true c62).symm), fun _ => rfl⟩, _, ht, hf⟩ | exact ⟨_, rfl, ⟨fun _ => SND_t hn0 hbk hfv c33 c41 c50 (c70.trans (decide_eq_false c62).symm), fun _ => rfl⟩, _, ht, hf⟩ | exact ⟨_, rfl, ⟨fun h => absurd h (by decide), fun h => absurd (h.1 _ hbk) c33⟩, _, ht, hf⟩ | exact ⟨_, rfl, ⟨fun h => absurd h (by decide), fun h => absurd (h.2.1 _ hfv) c41⟩, _, ht, hf⟩ | exact ⟨_, rfl, ⟨fun h => absurd h (by decide), fun h => absurd (h.2.2.1) c50⟩, _, ht, hf⟩ | exact ⟨_, rfl, ⟨fun h => absurd h (by decide), fun h => absurd (h.2.2.2.trans (decide_eq_true c62)) c70⟩, _, ht, hf⟩ | exact ⟨_, rfl, ⟨fun h => absurd h (by decide), fun h => absurd (h.2.2.2.trans (decide_eq_false c62)) c70⟩, _, ht, hf⟩) dX1_isTextSound_78 (Nat.le_of_ble_eq_true rfl) (Nat.le_of_ble_eq_true rfl)
          ·
            refine x_ib true Z dX1_isTextSound_65 (by decide) ?_
            refine x_goto Z 70 dX1_isTextSound_66 (by decide) ?_
            refine x_icmpb_ne Z 77 dX1_isTextSound_70 (by decide) (fun c70 => ?_) (fun c70 => ?_)
            ·
              refine x_ib false Z dX1_isTextSound_77 (by decide) ?_
              exact x_zret Z E (by first | exact ⟨_, rfl, ⟨fun _ => SND_t hn0 hbk hfv c33 c41 c50 (c70.trans (decide_eq_true c62).symm), fun _ => rfl⟩, _, ht, hf⟩ | exact ⟨_, rfl, ⟨fun _ => SND_t hn0 hbk hfv c33 c41 c50 (c70.trans (decide_eq_false c62).symm), fun _ => rfl⟩, _, ht, hf⟩ | exact ⟨_, rfl, ⟨fun h => absurd h (by decide), fun h => absurd (h.1 _ hbk) c33⟩, _, ht, hf⟩ | exact ⟨_, rfl, ⟨fun h => absurd h (by decide), fun h => absurd (h.2.1 _ hfv) c41⟩, _, ht, hf⟩ | exact ⟨_, rfl, ⟨fun h => absurd h (by decide), fun h => absurd (h.2.2.1) c50⟩, _, ht, hf⟩ | exact ⟨_, rfl, ⟨fun h => absurd h (by decide), fun h => absurd (h.2.2.2.trans (decide_eq_true c62)) c70⟩, _, ht, hf⟩ | exact ⟨_, rfl, ⟨fun h => absurd h (by decide), fun h => absurd (h.2.2.2.trans (decide_eq_false c62)) c70⟩, _, ht, hf⟩) dX1_isTextSound_78 (Nat.le_of_ble_eq_true rfl) (Nat.le_of_ble_eq_true rfl)
            ·
              refine x_ib true Z dX1_isTextSound_73 (by decide) ?_
              refine x_goto Z 78 dX1_isTextSound_74 (by decide) ?_
              exact x_zret Z E (by first | exact ⟨_, rfl, ⟨fun _ => SND_t hn0 hbk hfv c33 c41 c50 (c70.trans (decide_eq_true c62).symm), fun _ => rfl⟩, _, ht, hf⟩ | exact ⟨_, rfl, ⟨fun _ => SND_t hn0 hbk hfv c33 c41 c50 (c70.trans (decide_eq_false c62).symm), fun _ => rfl⟩, _, ht, hf⟩ | exact ⟨_, rfl, ⟨fun h => absurd h (by decide), fun h => absurd (h.1 _ hbk) c33⟩, _, ht, hf⟩ | exact ⟨_, rfl, ⟨fun h => absurd h (by decide), fun h => absurd (h.2.1 _ hfv) c41⟩, _, ht, hf⟩ | exact ⟨_, rfl, ⟨fun h => absurd h (by decide), fun h => absurd (h.2.2.1) c50⟩, _, ht, hf⟩ | exact ⟨_, rfl, ⟨fun h => absurd h (by decide), fun h => absurd (h.2.2.2.trans (decide_eq_true c62)) c70⟩, _, ht, hf⟩ | exact ⟨_, rfl, ⟨fun h => absurd h (by decide), fun h => absurd (h.2.2.2.trans (decide_eq_false c62)) c70⟩, _, ht, hf⟩) dX1_isTextSound_78 (Nat.le_of_ble_eq_true rfl) (Nat.le_of_ble_eq_true rfl)
abbrev rmc_X1_digestFrom : Room := { frames := 5, cells := 0, slots := 0, locals := 110 }
set_option maxRecDepth 100000 in
theorem c_X1_digestFrom {l : Launch} {s0 : State} {G : gK} {w : wd} (h0 : gS0 s0) (htr : l.stackTraces = false) {a r bb : Nat} {n : Int} {C B : Int → Int} {x : Int64} (ht : tX G w a r bb n C B) : gM l s0 G yX1_digestFrom [Cond.code yX1_digestFrom cX1_digestFrom 6 (some .long)] rmc_X1_digestFrom [rv a, .long x] w (fun v w' => v = some (.long (dgT n C x)) ∧ tB G w a r bb n C w') (noX) := by
  refine g_of h0 htr (by decide +kernel) (Nat.le_of_ble_eq_true rfl) ?_
  intro b Z0 E
  have Z : gAm b l s0 G cX1_digestFrom RX1 6 rmc_X1_digestFrom := Z0
  refine x_el (L' := [(0, rv a), (1, .long x)]) rfl ?_
  obtain ⟨ha, hr, hb, hn0, hn30, hC⟩ := id ht
  refine x_lload_n Z dX1_digestFrom_0 rfl rfl ?_
  refine x_aload_n Z dX1_digestFrom_1 rfl rfl ?_
  refine x_getf (ci := 2) (j := 1) (C := RX1) (T := TX1) (N := 3) Z inX1g rfl (by decide) q73 rfl dX1_digestFrom_2 (by assumption) rfl ?_
  refine x_callSN Z okX2_mixed q196 q197 dX1_digestFrom_5 (c_X2_mixed h0 htr ) ⟨Nat.le_of_ble_eq_true rfl, Nat.le_of_ble_eq_true rfl, Nat.le_of_ble_eq_true rfl, Nat.le_of_ble_eq_true rfl⟩ rfl rfl (Nat.le_of_ble_eq_true rfl) (fun v9 w9 hR => ?_)
  obtain ⟨rfl, e9⟩ := hR
  refine x_ew e9 ?_
  simp only [Option.toList_some, Option.toList_none, List.cons_append, List.nil_append]
  refine x_lstore_n (L' := [(3, _), (0, _), (1, _)]) Z dX1_digestFrom_8 rfl (Nat.le_of_ble_eq_true rfl) rfl ?_
  refine x_iconst Z dX1_digestFrom_9 ?_
  refine x_istore (L' := [(5, _), (3, _), (0, _), (1, _)]) Z dX1_digestFrom_10 (Nat.le_of_ble_eq_true rfl) rfl ?_
  have loop12 : ∀ (fu : Nat) (i : Int) (x1 : Int64), n - i < (fu : Int) → (0 ≤ i ∧ i ≤ n ∧ forI (dgc C) i n x1 = dgC n C (dmx x n)) → gX b s0 G (0) (0) 12 [(5, iv i), (3, .long x1), (0, rv a)] [] (w) := by
    intro fu; induction fu with
    | zero => intro i x1 hm hv; exact absurd hm (by omega)
    | succ fu ih12 =>
      intro i x1 hm hv
      obtain ⟨hi0, hin, hif⟩ := hv
      refine x_iload Z dX1_digestFrom_12 rfl ?_
      refine x_aload_n Z dX1_digestFrom_14 rfl rfl ?_
      refine x_getf (ci := 2) (j := 1) (C := RX1) (T := TX1) (N := 3) Z inX1g rfl (by decide) q73 rfl dX1_digestFrom_15 (by assumption) rfl ?_
      refine x_icmp_ge Z 49 dX1_digestFrom_18 (by decide) ⟨by omega, by omega⟩ ⟨by omega, by omega⟩ (fun c18 => ?_) (fun c18 => ?_)
      ·
        refine x_iconst Z dX1_digestFrom_49 ?_
        refine x_istore (L' := [(5, _), (3, _), (0, _)]) Z dX1_digestFrom_50 (Nat.le_of_ble_eq_true rfl) rfl ?_
        have loop52 : ∀ (fu : Nat) (i : Int) (x1 : Int64), 14 - i < (fu : Int) → (0 ≤ i ∧ i ≤ 14 ∧ forI (dgq n C) i 14 x1 = dgQ n C (dgC n C (dmx x n))) → gX b s0 G (0) (0) 52 [(5, iv i), (3, .long x1), (0, rv a)] [] (w) := by
          intro fu; induction fu with
          | zero => intro i x1 hm hv; exact absurd hm (by omega)
          | succ fu ih52 =>
            intro i x1 hm hv
            obtain ⟨hi0, hin, hif⟩ := hv
            refine x_iload Z dX1_digestFrom_52 rfl ?_
            refine x_bipush Z dX1_digestFrom_54 (by decide +kernel) ?_
            refine x_icmp_gt Z 79 dX1_digestFrom_56 (by decide) ⟨by omega, by omega⟩ ⟨by omega, by omega⟩ (fun c56 => ?_) (fun c56 => ?_)
            ·
              refine x_lload_n Z dX1_digestFrom_79 rfl rfl ?_
              refine x_aload_n Z dX1_digestFrom_80 rfl rfl ?_
              refine x_callV (ci := 2) (C := RX1) (T := TX1) (N := 3) Z okX1_firstFault q180 q181 q182 rfl dX1_digestFrom_81 (c_X1_firstFault h0 htr ht) ht.1 ⟨Nat.le_of_ble_eq_true rfl, Nat.le_of_ble_eq_true rfl, Nat.le_of_ble_eq_true rfl, Nat.le_of_ble_eq_true rfl⟩ rfl rfl (Nat.le_of_ble_eq_true rfl) (fun v9 w9 hR => ?_)
              obtain ⟨rfl, e9⟩ := hR
              refine x_ew e9 ?_
              simp only [Option.toList_some, Option.toList_none, List.cons_append, List.nil_append]
              refine x_callSN Z okX2_mixed q196 q197 dX1_digestFrom_84 (c_X2_mixed h0 htr ) ⟨Nat.le_of_ble_eq_true rfl, Nat.le_of_ble_eq_true rfl, Nat.le_of_ble_eq_true rfl, Nat.le_of_ble_eq_true rfl⟩ rfl rfl (Nat.le_of_ble_eq_true rfl) (fun v9 w9 hR => ?_)
              obtain ⟨rfl, e9⟩ := hR
              refine x_ew e9 ?_
              simp only [Option.toList_some, Option.toList_none, List.cons_append, List.nil_append]
              refine x_lstore_n (L' := [(3, _), (5, _), (0, _)]) Z dX1_digestFrom_87 rfl (Nat.le_of_ble_eq_true rfl) rfl ?_
              refine x_lload_n Z dX1_digestFrom_88 rfl rfl ?_
              refine x_aload_n Z dX1_digestFrom_89 rfl rfl ?_
              refine x_callV (ci := 2) (C := RX1) (T := TX1) (N := 3) Z okX1_begins q117 q118 q119 rfl dX1_digestFrom_90 (c_X1_begins h0 htr ht) ht.1 ⟨Nat.le_of_ble_eq_true rfl, Nat.le_of_ble_eq_true rfl, Nat.le_of_ble_eq_true rfl, Nat.le_of_ble_eq_true rfl⟩ rfl rfl (Nat.le_of_ble_eq_true rfl) (fun v9 w9 hR => ?_)
              obtain ⟨rfl, e9⟩ := hR
              refine x_ew e9 ?_
              simp only [Option.toList_some, Option.toList_none, List.cons_append, List.nil_append]
              refine x_callS Z okJ6_bitCount_0f7a4 q154 q155 dX1_digestFrom_93 (c_J6_bitCount_0f7a4 h0 htr ) ⟨Nat.le_of_ble_eq_true rfl, Nat.le_of_ble_eq_true rfl, Nat.le_of_ble_eq_true rfl, Nat.le_of_ble_eq_true rfl⟩ rfl rfl (Nat.le_of_ble_eq_true rfl) (fun v9 w9 hR => ?_)
              obtain ⟨rfl, e9⟩ := hR
              refine x_ew e9 ?_
              simp only [Option.toList_some, Option.toList_none, List.cons_append, List.nil_append]
              refine x_callSN Z okX2_mixed q196 q197 dX1_digestFrom_96 (c_X2_mixed h0 htr ) ⟨Nat.le_of_ble_eq_true rfl, Nat.le_of_ble_eq_true rfl, Nat.le_of_ble_eq_true rfl, Nat.le_of_ble_eq_true rfl⟩ rfl rfl (Nat.le_of_ble_eq_true rfl) (fun v9 w9 hR => ?_)
              obtain ⟨rfl, e9⟩ := hR
              refine x_ew e9 ?_
              simp only [Option.toList_some, Option.toList_none, List.cons_append, List.nil_append]
              refine x_lstore_n (L' := [(3, _), (5, _), (0, _)]) Z dX1_digestFrom_99 rfl (Nat.le_of_ble_eq_true rfl) rfl ?_
              refine x_lload_n Z dX1_digestFrom_100 rfl rfl ?_
              refine x_aload_n Z dX1_digestFrom_101 rfl rfl ?_
              refine x_callV (ci := 2) (C := RX1) (T := TX1) (N := 3) Z okX1_begins q117 q118 q119 rfl dX1_digestFrom_102 (c_X1_begins h0 htr ht) ht.1 ⟨Nat.le_of_ble_eq_true rfl, Nat.le_of_ble_eq_true rfl, Nat.le_of_ble_eq_true rfl, Nat.le_of_ble_eq_true rfl⟩ rfl rfl (Nat.le_of_ble_eq_true rfl) (fun v9 w9 hR => ?_)
              obtain ⟨rfl, e9⟩ := hR
              refine x_ew e9 ?_
              simp only [Option.toList_some, Option.toList_none, List.cons_append, List.nil_append]
              refine x_callSN Z okX2_cutsOf q151 q152 dX1_digestFrom_105 (c_X2_cutsOf h0 htr ) ⟨Nat.le_of_ble_eq_true rfl, Nat.le_of_ble_eq_true rfl, Nat.le_of_ble_eq_true rfl, Nat.le_of_ble_eq_true rfl⟩ rfl rfl (Nat.le_of_ble_eq_true rfl) (fun v9 w9 hR => ?_)
              obtain ⟨rfl, e9⟩ := hR
              refine x_ew e9 ?_
              simp only [Option.toList_some, Option.toList_none, List.cons_append, List.nil_append]
              refine x_callSN Z okX2_mixed q196 q197 dX1_digestFrom_108 (c_X2_mixed h0 htr ) ⟨Nat.le_of_ble_eq_true rfl, Nat.le_of_ble_eq_true rfl, Nat.le_of_ble_eq_true rfl, Nat.le_of_ble_eq_true rfl⟩ rfl rfl (Nat.le_of_ble_eq_true rfl) (fun v9 w9 hR => ?_)
              obtain ⟨rfl, e9⟩ := hR
              refine x_ew e9 ?_
              simp only [Option.toList_some, Option.toList_none, List.cons_append, List.nil_append]
              refine x_lstore_n (L' := [(3, _), (5, _), (0, _)]) Z dX1_digestFrom_111 rfl (Nat.le_of_ble_eq_true rfl) rfl ?_
              refine x_lload_n Z dX1_digestFrom_112 rfl rfl ?_
              refine x_aload_n Z dX1_digestFrom_113 rfl rfl ?_
              refine x_callV (ci := 2) (C := RX1) (T := TX1) (N := 3) Z okX1_fewestPieces q164 q165 q166 rfl dX1_digestFrom_114 (c_X1_fewestPieces h0 htr ht) ht.1 ⟨Nat.le_of_ble_eq_true rfl, Nat.le_of_ble_eq_true rfl, Nat.le_of_ble_eq_true rfl, Nat.le_of_ble_eq_true rfl⟩ rfl rfl (Nat.le_of_ble_eq_true rfl) (fun v9 w9 hR => ?_)
              obtain ⟨z, rfl, hz, hzf, B, ht, hf9⟩ := hR
              obtain ⟨ha, hr, hb, hn0, hn30, hC⟩ := id ht
              simp only [Option.toList_some, Option.toList_none, List.cons_append, List.nil_append]
              refine x_callSN Z okX2_mixed q196 q197 dX1_digestFrom_117 (c_X2_mixed h0 htr ) ⟨Nat.le_of_ble_eq_true rfl, Nat.le_of_ble_eq_true rfl, Nat.le_of_ble_eq_true rfl, Nat.le_of_ble_eq_true rfl⟩ rfl rfl (Nat.le_of_ble_eq_true rfl) (fun v9 w9 hR => ?_)
              obtain ⟨rfl, e9⟩ := hR
              refine x_ew e9 ?_
              simp only [Option.toList_some, Option.toList_none, List.cons_append, List.nil_append]
              have hx2 : x1 = dgQ n C (dgC n C (dmx x n)) := by { rw [← hif, forI_e (by omega)] }
              have hfz := fwz_v (n := n) (C := C) (by omega) hzf
              exact x_lret Z E (⟨by unfold dgT; rw [hfz, ← hx2]; rfl, _, ht, hf9⟩) dX1_digestFrom_120 (Nat.le_of_ble_eq_true rfl) (Nat.le_of_ble_eq_true rfl)
            ·
              refine x_lload_n Z dX1_digestFrom_59 rfl rfl ?_
              refine x_aload_n Z dX1_digestFrom_60 rfl rfl ?_
              refine x_iload Z dX1_digestFrom_61 rfl ?_
              refine x_callV (ci := 2) (C := RX1) (T := TX1) (N := 3) Z okX1_placesOf q205 q206 q207 rfl dX1_digestFrom_63 (c_X1_placesOf h0 htr ht (by omega) (by omega)) ht.1 ⟨Nat.le_of_ble_eq_true rfl, Nat.le_of_ble_eq_true rfl, Nat.le_of_ble_eq_true rfl, Nat.le_of_ble_eq_true rfl⟩ rfl rfl (Nat.le_of_ble_eq_true rfl) (fun v9 w9 hR => ?_)
              obtain ⟨rfl, e9⟩ := hR
              refine x_ew e9 ?_
              simp only [Option.toList_some, Option.toList_none, List.cons_append, List.nil_append]
              refine x_callS Z okJ6_bitCount_0f7a4 q154 q155 dX1_digestFrom_66 (c_J6_bitCount_0f7a4 h0 htr ) ⟨Nat.le_of_ble_eq_true rfl, Nat.le_of_ble_eq_true rfl, Nat.le_of_ble_eq_true rfl, Nat.le_of_ble_eq_true rfl⟩ rfl rfl (Nat.le_of_ble_eq_true rfl) (fun v9 w9 hR => ?_)
              obtain ⟨rfl, e9⟩ := hR
              refine x_ew e9 ?_
              simp only [Option.toList_some, Option.toList_none, List.cons_append, List.nil_append]
              refine x_callSN Z okX2_mixed q196 q197 dX1_digestFrom_69 (c_X2_mixed h0 htr ) ⟨Nat.le_of_ble_eq_true rfl, Nat.le_of_ble_eq_true rfl, Nat.le_of_ble_eq_true rfl, Nat.le_of_ble_eq_true rfl⟩ rfl rfl (Nat.le_of_ble_eq_true rfl) (fun v9 w9 hR => ?_)
              obtain ⟨rfl, e9⟩ := hR
              refine x_ew e9 ?_
              simp only [Option.toList_some, Option.toList_none, List.cons_append, List.nil_append]
              refine x_lstore_n (L' := [(3, _), (5, _), (0, _)]) Z dX1_digestFrom_72 rfl (Nat.le_of_ble_eq_true rfl) rfl ?_
              refine x_iinc (L' := [(5, _), (3, _), (0, _)]) Z dX1_digestFrom_73 rfl (Nat.le_of_ble_eq_true rfl) rfl ?_
              refine x_goto Z 52 dX1_digestFrom_76 (by decide) ?_
              exact ih52 (i + 1) _ (by omega) ⟨by omega, by omega, by rw [← hif, forI_s (f := dgq n C) (i := i) (by omega)]; exact congrArg (forI (dgq n C) (i + 1) 14) (by show _ = dmx _ _; rw [← bcn_msk hn0 hn30]; rfl)⟩
        have hx1 : x1 = dgC n C (dmx x n) := by { rw [← hif, forI_e (by omega)] }
        exact loop52 20 0 _ (by omega) ⟨by omega, by omega, by rw [← hx1]; rfl⟩
      ·
        refine x_lload_n Z dX1_digestFrom_21 rfl rfl ?_
        refine x_aload_n Z dX1_digestFrom_22 rfl rfl ?_
        refine x_iload Z dX1_digestFrom_23 rfl ?_
        refine x_callV (ci := 2) (C := RX1) (T := TX1) (N := 3) Z okX1_signAt q125 q126 q127 rfl dX1_digestFrom_25 (c_X1_signAt h0 htr ht (by omega) (by omega)) ht.1 ⟨Nat.le_of_ble_eq_true rfl, Nat.le_of_ble_eq_true rfl, Nat.le_of_ble_eq_true rfl, Nat.le_of_ble_eq_true rfl⟩ rfl rfl (Nat.le_of_ble_eq_true rfl) (fun v9 w9 hR => ?_)
        obtain ⟨rfl, e9⟩ := hR
        refine x_ew e9 ?_
        simp only [Option.toList_some, Option.toList_none, List.cons_append, List.nil_append]
        refine x_callSN Z okX2_mixed q196 q197 dX1_digestFrom_28 (c_X2_mixed h0 htr ) ⟨Nat.le_of_ble_eq_true rfl, Nat.le_of_ble_eq_true rfl, Nat.le_of_ble_eq_true rfl, Nat.le_of_ble_eq_true rfl⟩ rfl rfl (Nat.le_of_ble_eq_true rfl) (fun v9 w9 hR => ?_)
        obtain ⟨rfl, e9⟩ := hR
        refine x_ew e9 ?_
        simp only [Option.toList_some, Option.toList_none, List.cons_append, List.nil_append]
        refine x_lstore_n (L' := [(3, _), (5, _), (0, _)]) Z dX1_digestFrom_31 rfl (Nat.le_of_ble_eq_true rfl) rfl ?_
        refine x_lload_n Z dX1_digestFrom_32 rfl rfl ?_
        refine x_aload_n Z dX1_digestFrom_33 rfl rfl ?_
        refine x_iload Z dX1_digestFrom_34 rfl ?_
        refine x_callV (ci := 2) (C := RX1) (T := TX1) (N := 3) Z okX1_kindAt q200 q201 q202 rfl dX1_digestFrom_36 (c_X1_kindAt h0 htr ht (by omega) (by omega)) ht.1 ⟨Nat.le_of_ble_eq_true rfl, Nat.le_of_ble_eq_true rfl, Nat.le_of_ble_eq_true rfl, Nat.le_of_ble_eq_true rfl⟩ rfl rfl (Nat.le_of_ble_eq_true rfl) (fun v9 w9 hR => ?_)
        obtain ⟨rfl, e9⟩ := hR
        refine x_ew e9 ?_
        simp only [Option.toList_some, Option.toList_none, List.cons_append, List.nil_append]
        refine x_callSN Z okX2_mixed q196 q197 dX1_digestFrom_39 (c_X2_mixed h0 htr ) ⟨Nat.le_of_ble_eq_true rfl, Nat.le_of_ble_eq_true rfl, Nat.le_of_ble_eq_true rfl, Nat.le_of_ble_eq_true rfl⟩ rfl rfl (Nat.le_of_ble_eq_true rfl) (fun v9 w9 hR => ?_)
        obtain ⟨rfl, e9⟩ := hR
        refine x_ew e9 ?_
        simp only [Option.toList_some, Option.toList_none, List.cons_append, List.nil_append]
        refine x_lstore_n (L' := [(3, _), (5, _), (0, _)]) Z dX1_digestFrom_42 rfl (Nat.le_of_ble_eq_true rfl) rfl ?_
        refine x_iinc (L' := [(5, _), (3, _), (0, _)]) Z dX1_digestFrom_43 rfl (Nat.le_of_ble_eq_true rfl) rfl ?_
        refine x_goto Z 12 dX1_digestFrom_46 (by decide) ?_
        exact ih12 (i + 1) _ (by omega) ⟨by omega, by omega, by rw [← hif, forI_s (f := dgc C) (i := i) (by omega)]; rfl⟩
  refine x_sub [0, 1, 2] rfl ?_
  exact loop12 (n.toNat + 1) 0 _ (by omega) ⟨by omega, by omega, rfl⟩
