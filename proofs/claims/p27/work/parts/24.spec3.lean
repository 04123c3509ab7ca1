/-! spec3: walks, by program -/
theorem q3 : Cond.selects RX2 yX2_textAt yX2_textAt ∈ gT := gt_s 3 rfl rfl
theorem q4 : Cond.selects RX2 yX2_inserted yX2_inserted ∈ gT := gt_s 4 rfl rfl
theorem q5 : Cond.selects RX2 yX2_refused yX2_refused ∈ gT := gt_s 5 rfl rfl
theorem q6 : Cond.selects RX2 yX2_acted yX2_acted ∈ gT := gt_s 6 rfl rfl
theorem q84 : Cond.fieldLink RX2 11 "Kindcutter" "texts" "[LKindcutter$Text;" ∈ gT := gt_1 49 rfl rfl
theorem q85 : Cond.fieldLink RX2 169 "Kindcutter" "acts" "I" ∈ gT := gt_1 50 rfl rfl
theorem q86 : Cond.fieldLink RX2 173 "Kindcutter" "refusals" "I" ∈ gT := gt_1 51 rfl rfl
theorem q87 : Cond.fieldLink RX2 176 "Kindcutter" "knocks" "I" ∈ gT := gt_1 52 rfl rfl
theorem q217 : Cond.methodLink RX2 24 yX1_size ∈ gT := gt_1 182 rfl rfl
theorem q218 : Cond.instanceMethod yX1_size ∈ gT := gt_1 183 rfl rfl
theorem q219 : Cond.selects RX1 yX1_size yX1_size ∈ gT := gt_1 184 rfl rfl
theorem q220 : Cond.code yX1_size cX1_size 1 (some .int) ∈ gT := gt_1 185 rfl rfl
theorem q313 : Cond.methodLink RX2 16 yX2_textAt ∈ gT := gt_2 38 rfl rfl
theorem q315 : Cond.instanceMethod yX2_textAt ∈ gT := gt_2 40 rfl rfl
theorem q316 : Cond.code yX2_textAt cX2_textAt 2 (some (.object "Kindcutter$Text")) ∈ gT := gt_2 41 rfl rfl
theorem q332 : Cond.methodLink RX2 20 yX2_checkSign ∈ gT := gt_2 57 rfl rfl
theorem q333 : Cond.static yX2_checkSign ∈ gT := gt_2 58 rfl rfl
theorem q334 : Cond.code yX2_checkSign cX2_checkSign 1 none ∈ gT := gt_2 59 rfl rfl
theorem q335 : Cond.methodLink RX2 28 yX2_inserted ∈ gT := gt_2 60 rfl rfl
theorem q337 : Cond.instanceMethod yX2_inserted ∈ gT := gt_2 62 rfl rfl
theorem q338 : Cond.code yX2_inserted cX2_inserted 4 (some .int) ∈ gT := gt_2 63 rfl rfl
theorem q339 : Cond.methodLink RX2 60 yX2_refused ∈ gT := gt_2 64 rfl rfl
theorem q341 : Cond.instanceMethod yX2_refused ∈ gT := gt_2 66 rfl rfl
theorem q342 : Cond.code yX2_refused cX2_refused 1 (some .int) ∈ gT := gt_2 67 rfl rfl
theorem q343 : Cond.methodLink RX2 74 yX1_insertSign ∈ gT := gt_2 68 rfl rfl
theorem q344 : Cond.instanceMethod yX1_insertSign ∈ gT := gt_2 69 rfl rfl
theorem q345 : Cond.selects RX1 yX1_insertSign yX1_insertSign ∈ gT := gt_2 70 rfl rfl
theorem q346 : Cond.code yX1_insertSign cX1_insertSign 4 none ∈ gT := gt_2 71 rfl rfl
theorem q351 : Cond.methodLink RX2 44 yX2_acted ∈ gT := gt_2 76 rfl rfl
theorem q353 : Cond.instanceMethod yX2_acted ∈ gT := gt_2 78 rfl rfl
theorem q354 : Cond.code yX2_acted cX2_acted 2 (some .int) ∈ gT := gt_2 79 rfl rfl
theorem q362 : Cond.methodLink RX2 32 yX2_checkPlace ∈ gT := gt_2 87 rfl rfl
theorem q363 : Cond.static yX2_checkPlace ∈ gT := gt_2 88 rfl rfl
theorem q364 : Cond.code yX2_checkPlace cX2_checkPlace 2 none ∈ gT := gt_2 89 rfl rfl
theorem q365 : Cond.methodLink RX2 36 yX1_signAt ∈ gT := gt_2 90 rfl rfl
theorem q366 : Cond.methodLink RX2 40 yX1_setSign ∈ gT := gt_2 91 rfl rfl
theorem q381 : Cond.methodLink RX2 50 yX1_allPlaces ∈ gT := gt_2 106 rfl rfl
theorem q382 : Cond.instanceMethod yX1_allPlaces ∈ gT := gt_2 107 rfl rfl
theorem q383 : Cond.selects RX1 yX1_allPlaces yX1_allPlaces ∈ gT := gt_2 108 rfl rfl
theorem q384 : Cond.code yX1_allPlaces cX1_allPlaces 1 (some .int) ∈ gT := gt_2 109 rfl rfl
theorem q385 : Cond.methodLink RX2 53 yX1_retain ∈ gT := gt_2 110 rfl rfl
theorem q386 : Cond.instanceMethod yX1_retain ∈ gT := gt_2 111 rfl rfl
theorem q387 : Cond.selects RX1 yX1_retain yX1_retain ∈ gT := gt_2 112 rfl rfl
theorem q388 : Cond.code yX1_retain cX1_retain 4 (some .int) ∈ gT := gt_2 113 rfl rfl
theorem q403 : Cond.methodLink RX2 56 yX1_become ∈ gT := gt_2 128 rfl rfl
theorem q404 : Cond.instanceMethod yX1_become ∈ gT := gt_2 129 rfl rfl
theorem q405 : Cond.selects RX1 yX1_become yX1_become ∈ gT := gt_2 130 rfl rfl
theorem q406 : Cond.code yX1_become cX1_become 5 none ∈ gT := gt_2 131 rfl rfl
theorem q414 : Cond.methodLink RX2 63 yX1_append ∈ gT := gt_2 139 rfl rfl
theorem q415 : Cond.instanceMethod yX1_append ∈ gT := gt_2 140 rfl rfl
theorem q416 : Cond.selects RX1 yX1_append yX1_append ∈ gT := gt_2 141 rfl rfl
theorem q417 : Cond.code yX1_append cX1_append 4 none ∈ gT := gt_2 142 rfl rfl
theorem q425 : Cond.methodLink RX2 67 yX1_reverse ∈ gT := gt_2 150 rfl rfl
theorem q426 : Cond.instanceMethod yX1_reverse ∈ gT := gt_2 151 rfl rfl
theorem q427 : Cond.selects RX1 yX1_reverse yX1_reverse ∈ gT := gt_2 152 rfl rfl
theorem q428 : Cond.code yX1_reverse cX1_reverse 5 (some .boolean) ∈ gT := gt_2 153 rfl rfl
theorem q450 : Cond.methodLink RX2 77 yX2_checkQuestion ∈ gT := gt_2 175 rfl rfl
theorem q451 : Cond.static yX2_checkQuestion ∈ gT := gt_2 176 rfl rfl
theorem q452 : Cond.code yX2_checkQuestion cX2_checkQuestion 1 none ∈ gT := gt_2 177 rfl rfl
theorem q453 : Cond.methodLink RX2 80 yX1_placesOf ∈ gT := gt_2 178 rfl rfl
theorem q454 : Cond.methodLink RX2 83 yX2_sifted ∈ gT := gt_2 179 rfl rfl
theorem q455 : Cond.static yX2_sifted ∈ gT := gt_2 180 rfl rfl
theorem q456 : Cond.code yX2_sifted cX2_sifted 3 (some .int) ∈ gT := gt_2 181 rfl rfl
theorem q464 : Cond.methodLink RX2 87 yX2_checkKind ∈ gT := gt_2 189 rfl rfl
theorem q465 : Cond.static yX2_checkKind ∈ gT := gt_2 190 rfl rfl
theorem q466 : Cond.code yX2_checkKind cX2_checkKind 1 none ∈ gT := gt_2 191 rfl rfl
theorem q467 : Cond.methodLink RX2 90 yX1_placesOfKind ∈ gT := gt_2 192 rfl rfl
theorem q468 : Cond.instanceMethod yX1_placesOfKind ∈ gT := gt_2 193 rfl rfl
theorem q469 : Cond.selects RX1 yX1_placesOfKind yX1_placesOfKind ∈ gT := gt_2 194 rfl rfl
theorem q470 : Cond.code yX1_placesOfKind cX1_placesOfKind 4 (some .int) ∈ gT := gt_2 195 rfl rfl
theorem q478 : Cond.methodLink RX2 93 yX2_beginOfPiece ∈ gT := gt_2 203 rfl rfl
theorem q479 : Cond.static yX2_beginOfPiece ∈ gT := gt_2 204 rfl rfl
theorem q480 : Cond.code yX2_beginOfPiece cX2_beginOfPiece 3 (some .int) ∈ gT := gt_2 205 rfl rfl
theorem q481 : Cond.methodLink RX2 204 yX1_beginOf ∈ gT := gt_2 206 rfl rfl
theorem q482 : Cond.instanceMethod yX1_beginOf ∈ gT := gt_2 207 rfl rfl
theorem q483 : Cond.selects RX1 yX1_beginOf yX1_beginOf ∈ gT := gt_2 208 rfl rfl
theorem q484 : Cond.code yX1_beginOf cX1_beginOf 5 (some .int) ∈ gT := gt_2 209 rfl rfl
theorem q485 : Cond.methodLink RX2 97 yX1_longestAt ∈ gT := gt_2 210 rfl rfl
theorem q493 : Cond.methodLink RX2 100 yX0_isLet ∈ gT := gt_2 218 rfl rfl
theorem okX2_checkSign : gOk yX2_checkSign cX2_checkSign 1 none 1 := ⟨q334, q36, ⟨by decide +kernel, by decide +kernel⟩, by decide +kernel⟩
theorem okX1_size : gOk yX1_size cX1_size 1 (some .int) 0 := ⟨q220, q37, ⟨by decide +kernel, by decide +kernel⟩, by decide +kernel⟩
theorem okX1_beginOf : gOk yX1_beginOf cX1_beginOf 5 (some .int) 1 := ⟨q484, q37, ⟨by decide +kernel, by decide +kernel⟩, by decide +kernel⟩
theorem okX1_insertSign : gOk yX1_insertSign cX1_insertSign 4 none 2 := ⟨q346, q37, ⟨by decide +kernel, by decide +kernel⟩, by decide +kernel⟩
theorem okX2_acted : gOk yX2_acted cX2_acted 2 (some .int) 1 := ⟨q354, q36, ⟨by decide +kernel, by decide +kernel⟩, by decide +kernel⟩
theorem okX2_refused : gOk yX2_refused cX2_refused 1 (some .int) 0 := ⟨q342, q36, ⟨by decide +kernel, by decide +kernel⟩, by decide +kernel⟩
theorem okX2_textAt : gOk yX2_textAt cX2_textAt 2 (some (.object "Kindcutter$Text")) 1 := ⟨q316, q36, ⟨by decide +kernel, by decide +kernel⟩, by decide +kernel⟩
theorem okX2_inserted : gOk yX2_inserted cX2_inserted 4 (some .int) 3 := ⟨q338, q36, ⟨by decide +kernel, by decide +kernel⟩, by decide +kernel⟩
theorem okX2_checkPlace : gOk yX2_checkPlace cX2_checkPlace 2 none 2 := ⟨q364, q36, ⟨by decide +kernel, by decide +kernel⟩, by decide +kernel⟩
theorem okX1_allPlaces : gOk yX1_allPlaces cX1_allPlaces 1 (some .int) 0 := ⟨q384, q37, ⟨by decide +kernel, by decide +kernel⟩, by decide +kernel⟩
theorem okX1_retain : gOk yX1_retain cX1_retain 4 (some .int) 1 := ⟨q388, q37, ⟨by decide +kernel, by decide +kernel⟩, by decide +kernel⟩
theorem okX1_become : gOk yX1_become cX1_become 5 none 3 := ⟨q406, q37, ⟨by decide +kernel, by decide +kernel⟩, by decide +kernel⟩
theorem okX1_append : gOk yX1_append cX1_append 4 none 1 := ⟨q417, q37, ⟨by decide +kernel, by decide +kernel⟩, by decide +kernel⟩
theorem okX1_reverse : gOk yX1_reverse cX1_reverse 5 (some .boolean) 0 := ⟨q428, q37, ⟨by decide +kernel, by decide +kernel⟩, by decide +kernel⟩
theorem okX2_checkQuestion : gOk yX2_checkQuestion cX2_checkQuestion 1 none 1 := ⟨q452, q36, ⟨by decide +kernel, by decide +kernel⟩, by decide +kernel⟩
theorem okX2_sifted : gOk yX2_sifted cX2_sifted 3 (some .int) 3 := ⟨q456, q36, ⟨by decide +kernel, by decide +kernel⟩, by decide +kernel⟩
theorem okX2_checkKind : gOk yX2_checkKind cX2_checkKind 1 none 1 := ⟨q466, q36, ⟨by decide +kernel, by decide +kernel⟩, by decide +kernel⟩
theorem okX1_placesOfKind : gOk yX1_placesOfKind cX1_placesOfKind 4 (some .int) 1 := ⟨q470, q37, ⟨by decide +kernel, by decide +kernel⟩, by decide +kernel⟩
theorem okX2_beginOfPiece : gOk yX2_beginOfPiece cX2_beginOfPiece 3 (some .int) 2 := ⟨q480, q36, ⟨by decide +kernel, by decide +kernel⟩, by decide +kernel⟩
abbrev rmc_X2_textAt : Room := { frames := 6, cells := 1, slots := 6, locals := 100 }
set_option maxRecDepth 100000 in
theorem c_X2_textAt {l : Launch} {s0 : State} {G : gK} {w : wd} (h0 : gS0 s0) (htr : l.stackTraces = false) {K : kA} {M : kM} {p : Int} (hS : kS G w K M) (hp : inr p) : gM l s0 G yX2_textAt [Cond.code yX2_textAt cX2_textAt 2 (some (.object "Kindcutter$Text"))] rmc_X2_textAt [rv K.1, iv p] w (fun v w' => (v = some (rv (K.2.2.1 p)) ∧ w' = w) ∧ 0 ≤ p ∧ p < 3) (fun X w' => X = "java/lang/IndexOutOfBoundsException" ∧ w' = w ∧ ¬ (0 ≤ p ∧ p < 3)) := by
  refine g_of h0 htr (by decide +kernel) (Nat.le_of_ble_eq_true rfl) ?_
  intro b Z0 E
  have Z : gAm b l s0 G cX2_textAt RX2 2 rmc_X2_textAt := Z0
  refine x_el (L' := [(0, rv K.1), (1, iv p)]) rfl ?_
  obtain ⟨hk1, ⟨f0, hk2, hk3⟩, hk4, hk5⟩ := id hS
  have hf0 : fr (kP K) w w := fr.rf
  refine x_iload_n Z dX2_textAt_0 rfl rfl ?_
  refine x_if_lt Z 9 dX2_textAt_1 (by decide) ⟨by omega, by omega⟩ (fun c1 => ?_) (fun c1 => ?_)
  ·
    exact x_thr Z E (cls := "java/lang/IndexOutOfBoundsException") (ik := 47) (ic := 49) (by decide +kernel) wsIO dX2_textAt_9 dX2_textAt_12 dX2_textAt_13 dX2_textAt_16 (Nat.le_of_ble_eq_true rfl) (Nat.le_of_ble_eq_true rfl) (Nat.le_of_ble_eq_true rfl) (Nat.le_of_ble_eq_true rfl) ⟨rfl, rfl, by omega⟩
  ·
    refine x_iload_n Z dX2_textAt_4 rfl rfl ?_
    refine x_iconst Z dX2_textAt_5 ?_
    refine x_icmp_lt Z 17 dX2_textAt_6 (by decide) ⟨by omega, by omega⟩ ⟨by omega, by omega⟩ (fun c6 => ?_) (fun c6 => ?_)
    ·
      refine x_aload_n Z dX2_textAt_17 rfl rfl ?_
      refine x_getf (ci := 3) (j := 0) (C := RX2) (T := TX2) (N := 4) Z inX2g rfl (by decide) q84 rfl dX2_textAt_18 (by assumption) rfl ?_
      refine x_iload_n Z dX2_textAt_21 rfl rfl ?_
      refine x_aaldT Z dX2_textAt_22 hk2 (by decide) (by omega) (by omega) (hk3 p (by omega) (by omega)) ?_
      exact x_aret Z E (⟨⟨rfl, rfl⟩, by omega, by omega⟩) dX2_textAt_23 (Nat.le_of_ble_eq_true rfl) (Nat.le_of_ble_eq_true rfl)
    ·
      exact x_thr Z E (cls := "java/lang/IndexOutOfBoundsException") (ik := 47) (ic := 49) (by decide +kernel) wsIO dX2_textAt_9 dX2_textAt_12 dX2_textAt_13 dX2_textAt_16 (Nat.le_of_ble_eq_true rfl) (Nat.le_of_ble_eq_true rfl) (Nat.le_of_ble_eq_true rfl) (Nat.le_of_ble_eq_true rfl) ⟨rfl, rfl, by omega⟩
abbrev rmc_X2_checkSign : Room := { frames := 6, cells := 1, slots := 6, locals := 100 }
set_option maxRecDepth 100000 in
theorem c_X2_checkSign {l : Launch} {s0 : State} {G : gK} {w : wd} (h0 : gS0 s0) (htr : l.stackTraces = false) {s : Int} (hp : inr s) : gM l s0 G yX2_checkSign [Cond.code yX2_checkSign cX2_checkSign 1 none] rmc_X2_checkSign [iv s] w (fun v w' => (v = none ∧ w' = w) ∧ 0 ≤ s ∧ s ≤ 255) (fun X w' => X = "java/lang/IllegalArgumentException" ∧ w' = w ∧ ¬ (0 ≤ s ∧ s ≤ 255)) := by
  refine g_of h0 htr (by decide +kernel) (Nat.le_of_ble_eq_true rfl) ?_
  intro b Z0 E
  have Z : gAm b l s0 G cX2_checkSign RX2 1 rmc_X2_checkSign := Z0
  refine x_el (L' := [(0, iv s)]) rfl ?_
  refine x_iload_n Z dX2_checkSign_0 rfl rfl ?_
  refine x_if_lt Z 11 dX2_checkSign_1 (by decide) ⟨by omega, by omega⟩ (fun c1 => ?_) (fun c1 => ?_)
  ·
    exact x_thr Z E (cls := "java/lang/IllegalArgumentException") (ik := 71) (ic := 73) (by decide +kernel) wsIA dX2_checkSign_11 dX2_checkSign_14 dX2_checkSign_15 dX2_checkSign_18 (Nat.le_of_ble_eq_true rfl) (Nat.le_of_ble_eq_true rfl) (Nat.le_of_ble_eq_true rfl) (Nat.le_of_ble_eq_true rfl) ⟨rfl, rfl, by omega⟩
  ·
    refine x_iload_n Z dX2_checkSign_4 rfl rfl ?_
    refine x_sipush Z dX2_checkSign_5 (by decide +kernel) ?_
    refine x_icmp_le Z 19 dX2_checkSign_8 (by decide) ⟨by omega, by omega⟩ ⟨by omega, by omega⟩ (fun c8 => ?_) (fun c8 => ?_)
    ·
      exact x_vret Z E (⟨⟨rfl, rfl⟩, by omega, by omega⟩) dX2_checkSign_19 (Nat.le_of_ble_eq_true rfl) (Nat.le_of_ble_eq_true rfl)
    ·
      exact x_thr Z E (cls := "java/lang/IllegalArgumentException") (ik := 71) (ic := 73) (by decide +kernel) wsIA dX2_checkSign_11 dX2_checkSign_14 dX2_checkSign_15 dX2_checkSign_18 (Nat.le_of_ble_eq_true rfl) (Nat.le_of_ble_eq_true rfl) (Nat.le_of_ble_eq_true rfl) (Nat.le_of_ble_eq_true rfl) ⟨rfl, rfl, by omega⟩
abbrev rmc_X2_checkKind : Room := { frames := 6, cells := 1, slots := 6, locals := 100 }
set_option maxRecDepth 100000 in
theorem c_X2_checkKind {l : Launch} {s0 : State} {G : gK} {w : wd} (h0 : gS0 s0) (htr : l.stackTraces = false) {s : Int} (hp : inr s) : gM l s0 G yX2_checkKind [Cond.code yX2_checkKind cX2_checkKind 1 none] rmc_X2_checkKind [iv s] w (fun v w' => (v = none ∧ w' = w) ∧ 0 ≤ s ∧ s ≤ 30) (fun X w' => X = "java/lang/IllegalArgumentException" ∧ w' = w ∧ ¬ (0 ≤ s ∧ s ≤ 30)) := by
  refine g_of h0 htr (by decide +kernel) (Nat.le_of_ble_eq_true rfl) ?_
  intro b Z0 E
  have Z : gAm b l s0 G cX2_checkKind RX2 1 rmc_X2_checkKind := Z0
  refine x_el (L' := [(0, iv s)]) rfl ?_
  refine x_iload_n Z dX2_checkKind_0 rfl rfl ?_
  refine x_if_lt Z 10 dX2_checkKind_1 (by decide) ⟨by omega, by omega⟩ (fun c1 => ?_) (fun c1 => ?_)
  ·
    exact x_thr Z E (cls := "java/lang/IllegalArgumentException") (ik := 71) (ic := 73) (by decide +kernel) wsIA dX2_checkKind_10 dX2_checkKind_13 dX2_checkKind_14 dX2_checkKind_17 (Nat.le_of_ble_eq_true rfl) (Nat.le_of_ble_eq_true rfl) (Nat.le_of_ble_eq_true rfl) (Nat.le_of_ble_eq_true rfl) ⟨rfl, rfl, by omega⟩
  ·
    refine x_iload_n Z dX2_checkKind_4 rfl rfl ?_
    refine x_bipush Z dX2_checkKind_5 (by decide +kernel) ?_
    refine x_icmp_le Z 18 dX2_checkKind_7 (by decide) ⟨by omega, by omega⟩ ⟨by omega, by omega⟩ (fun c7 => ?_) (fun c7 => ?_)
    ·
      exact x_vret Z E (⟨⟨rfl, rfl⟩, by omega, by omega⟩) dX2_checkKind_18 (Nat.le_of_ble_eq_true rfl) (Nat.le_of_ble_eq_true rfl)
    ·
      exact x_thr Z E (cls := "java/lang/IllegalArgumentException") (ik := 71) (ic := 73) (by decide +kernel) wsIA dX2_checkKind_10 dX2_checkKind_13 dX2_checkKind_14 dX2_checkKind_17 (Nat.le_of_ble_eq_true rfl) (Nat.le_of_ble_eq_true rfl) (Nat.le_of_ble_eq_true rfl) (Nat.le_of_ble_eq_true rfl) ⟨rfl, rfl, by omega⟩
abbrev rmc_X2_checkQuestion : Room := { frames := 6, cells := 1, slots := 6, locals := 100 }
set_option maxRecDepth 100000 in
theorem c_X2_checkQuestion {l : Launch} {s0 : State} {G : gK} {w : wd} (h0 : gS0 s0) (htr : l.stackTraces = false) {s : Int} (hp : inr s) : gM l s0 G yX2_checkQuestion [Cond.code yX2_checkQuestion cX2_checkQuestion 1 none] rmc_X2_checkQuestion [iv s] w (fun v w' => (v = none ∧ w' = w) ∧ 0 ≤ s ∧ s ≤ 13) (fun X w' => X = "java/lang/IllegalArgumentException" ∧ w' = w ∧ ¬ (0 ≤ s ∧ s ≤ 13)) := by
  refine g_of h0 htr (by decide +kernel) (Nat.le_of_ble_eq_true rfl) ?_
  intro b Z0 E
  have Z : gAm b l s0 G cX2_checkQuestion RX2 1 rmc_X2_checkQuestion := Z0
  refine x_el (L' := [(0, iv s)]) rfl ?_
  refine x_iload_n Z dX2_checkQuestion_0 rfl rfl ?_
  refine x_if_lt Z 10 dX2_checkQuestion_1 (by decide) ⟨by omega, by omega⟩ (fun c1 => ?_) (fun c1 => ?_)
  ·
    exact x_thr Z E (cls := "java/lang/IllegalArgumentException") (ik := 71) (ic := 73) (by decide +kernel) wsIA dX2_checkQuestion_10 dX2_checkQuestion_13 dX2_checkQuestion_14 dX2_checkQuestion_17 (Nat.le_of_ble_eq_true rfl) (Nat.le_of_ble_eq_true rfl) (Nat.le_of_ble_eq_true rfl) (Nat.le_of_ble_eq_true rfl) ⟨rfl, rfl, by omega⟩
  ·
    refine x_iload_n Z dX2_checkQuestion_4 rfl rfl ?_
    refine x_bipush Z dX2_checkQuestion_5 (by decide +kernel) ?_
    refine x_icmp_le Z 18 dX2_checkQuestion_7 (by decide) ⟨by omega, by omega⟩ ⟨by omega, by omega⟩ (fun c7 => ?_) (fun c7 => ?_)
    ·
      exact x_vret Z E (⟨⟨rfl, rfl⟩, by omega, by omega⟩) dX2_checkQuestion_18 (Nat.le_of_ble_eq_true rfl) (Nat.le_of_ble_eq_true rfl)
    ·
      exact x_thr Z E (cls := "java/lang/IllegalArgumentException") (ik := 71) (ic := 73) (by decide +kernel) wsIA dX2_checkQuestion_10 dX2_checkQuestion_13 dX2_checkQuestion_14 dX2_checkQuestion_17 (Nat.le_of_ble_eq_true rfl) (Nat.le_of_ble_eq_true rfl) (Nat.le_of_ble_eq_true rfl) (Nat.le_of_ble_eq_true rfl) ⟨rfl, rfl, by omega⟩
abbrev rmc_X2_checkSpan : Room := { frames := 7, cells := 3, slots := 18, locals := 120 }
set_option maxRecDepth 100000 in
theorem c_X2_checkSpan {l : Launch} {s0 : State} {G : gK} {w : wd} (h0 : gS0 s0) (htr : l.stackTraces = false) {f t : Int} (hp : inr f) (hp2 : inr t) : gM l s0 G yX2_checkSpan [Cond.code yX2_checkSpan cX2_checkSpan 2 none] rmc_X2_checkSpan [iv f, iv t] w (fun v w' => (v = none ∧ w' = w) ∧ 0 ≤ f ∧ f ≤ t ∧ t ≤ 255) (fun X w' => X = "java/lang/IllegalArgumentException" ∧ w' = w ∧ ¬ (0 ≤ f ∧ f ≤ t ∧ t ≤ 255)) := by
  refine g_of h0 htr (by decide +kernel) (Nat.le_of_ble_eq_true rfl) ?_
  intro b Z0 E
  have Z : gAm b l s0 G cX2_checkSpan RX2 2 rmc_X2_checkSpan := Z0
  refine x_el (L' := [(0, iv f), (1, iv t)]) rfl ?_
  refine x_iload_n Z dX2_checkSpan_0 rfl rfl ?_
  refine x_callSx Z okX2_checkSign q332 q333 dX2_checkSpan_1 (c_X2_checkSign h0 htr (by assumption)) ⟨Nat.le_of_ble_eq_true rfl, Nat.le_of_ble_eq_true rfl, Nat.le_of_ble_eq_true rfl, Nat.le_of_ble_eq_true rfl⟩ rfl rfl (Nat.le_of_ble_eq_true rfl) (fun X w9 hX => x_out Z E (⟨hX.1, hX.2.1, fun h => hX.2.2 (by omega)⟩) (Nat.le_of_ble_eq_true rfl) (Nat.le_of_ble_eq_true rfl)) (fun v9 w9 hR => ?_)
  obtain ⟨⟨rfl, e9⟩, hq0, hq9⟩ := hR
  refine x_ew e9 ?_
  simp only [Option.toList_some, Option.toList_none, List.cons_append, List.nil_append]
  refine x_iload_n Z dX2_checkSpan_4 rfl rfl ?_
  refine x_callSx Z okX2_checkSign q332 q333 dX2_checkSpan_5 (c_X2_checkSign h0 htr (by assumption)) ⟨Nat.le_of_ble_eq_true rfl, Nat.le_of_ble_eq_true rfl, Nat.le_of_ble_eq_true rfl, Nat.le_of_ble_eq_true rfl⟩ rfl rfl (Nat.le_of_ble_eq_true rfl) (fun X w9 hX => x_out Z E (⟨hX.1, hX.2.1, fun h => hX.2.2 (by omega)⟩) (Nat.le_of_ble_eq_true rfl) (Nat.le_of_ble_eq_true rfl)) (fun v9 w9 hR => ?_)
  obtain ⟨⟨rfl, e9⟩, hq0, hq9⟩ := hR
  refine x_ew e9 ?_
  simp only [Option.toList_some, Option.toList_none, List.cons_append, List.nil_append]
  refine x_iload_n Z dX2_checkSpan_8 rfl rfl ?_
  refine x_iload_n Z dX2_checkSpan_9 rfl rfl ?_
  refine x_icmp_le Z 21 dX2_checkSpan_10 (by decide) ⟨by omega, by omega⟩ ⟨by omega, by omega⟩ (fun c10 => ?_) (fun c10 => ?_)
  ·
    exact x_vret Z E (⟨⟨rfl, rfl⟩, by omega, by omega, by omega⟩) dX2_checkSpan_21 (Nat.le_of_ble_eq_true rfl) (Nat.le_of_ble_eq_true rfl)
  ·
    exact x_thr Z E (cls := "java/lang/IllegalArgumentException") (ik := 71) (ic := 73) (by decide +kernel) wsIA dX2_checkSpan_13 dX2_checkSpan_16 dX2_checkSpan_17 dX2_checkSpan_20 (Nat.le_of_ble_eq_true rfl) (Nat.le_of_ble_eq_true rfl) (Nat.le_of_ble_eq_true rfl) (Nat.le_of_ble_eq_true rfl) ⟨rfl, rfl, by omega⟩
abbrev rmc_X2_checkPlace : Room := { frames := 6, cells := 1, slots := 6, locals := 100 }
set_option maxRecDepth 100000 in
theorem c_X2_checkPlace {l : Launch} {s0 : State} {G : gK} {w : wd} (h0 : gS0 s0) (htr : l.stackTraces = false) {a r bb : Nat} {n : Int} {C B : Int → Int} {p : Int} (ht : tX G w a r bb n C B) (hp : inr p) : gM l s0 G yX2_checkPlace [Cond.code yX2_checkPlace cX2_checkPlace 2 none] rmc_X2_checkPlace [rv a, iv p] w (fun v w' => (v = none ∧ w' = w) ∧ 0 ≤ p ∧ p < n) (fun X w' => X = "java/lang/IndexOutOfBoundsException" ∧ w' = w ∧ ¬ (0 ≤ p ∧ p < n)) := by
  refine g_of h0 htr (by decide +kernel) (Nat.le_of_ble_eq_true rfl) ?_
  intro b Z0 E
  have Z : gAm b l s0 G cX2_checkPlace RX2 2 rmc_X2_checkPlace := Z0
  refine x_el (L' := [(0, rv a), (1, iv p)]) rfl ?_
  obtain ⟨ha, hr, hb, hn0, hn30, hC⟩ := id ht
  refine x_iload_n Z dX2_checkPlace_0 rfl rfl ?_
  refine x_if_lt Z 12 dX2_checkPlace_1 (by decide) ⟨by omega, by omega⟩ (fun c1 => ?_) (fun c1 => ?_)
  ·
    exact x_thr Z E (cls := "java/lang/IndexOutOfBoundsException") (ik := 47) (ic := 49) (by decide +kernel) wsIO dX2_checkPlace_12 dX2_checkPlace_15 dX2_checkPlace_16 dX2_checkPlace_19 (Nat.le_of_ble_eq_true rfl) (Nat.le_of_ble_eq_true rfl) (Nat.le_of_ble_eq_true rfl) (Nat.le_of_ble_eq_true rfl) ⟨rfl, rfl, by omega⟩
  ·
    refine x_iload_n Z dX2_checkPlace_4 rfl rfl ?_
    refine x_aload_n Z dX2_checkPlace_5 rfl rfl ?_
    refine x_callV (ci := 2) (C := RX1) (T := TX1) (N := 3) Z okX1_size q217 q218 q219 rfl dX2_checkPlace_6 (c_X1_size h0 htr ht) ht.1 ⟨Nat.le_of_ble_eq_true rfl, Nat.le_of_ble_eq_true rfl, Nat.le_of_ble_eq_true rfl, Nat.le_of_ble_eq_true rfl⟩ rfl rfl (Nat.le_of_ble_eq_true rfl) (fun v9 w9 hR => ?_)
    obtain ⟨rfl, e9⟩ := hR
    refine x_ew e9 ?_
    simp only [Option.toList_some, Option.toList_none, List.cons_append, List.nil_append]
    refine x_icmp_lt Z 20 dX2_checkPlace_9 (by decide) ⟨by omega, by omega⟩ ⟨by omega, by omega⟩ (fun c9 => ?_) (fun c9 => ?_)
    ·
      exact x_vret Z E (⟨⟨rfl, rfl⟩, by omega, by omega⟩) dX2_checkPlace_20 (Nat.le_of_ble_eq_true rfl) (Nat.le_of_ble_eq_true rfl)
    ·
      exact x_thr Z E (cls := "java/lang/IndexOutOfBoundsException") (ik := 47) (ic := 49) (by decide +kernel) wsIO dX2_checkPlace_12 dX2_checkPlace_15 dX2_checkPlace_16 dX2_checkPlace_19 (Nat.le_of_ble_eq_true rfl) (Nat.le_of_ble_eq_true rfl) (Nat.le_of_ble_eq_true rfl) (Nat.le_of_ble_eq_true rfl) ⟨rfl, rfl, by omega⟩
abbrev rmc_X2_beginOfPiece : Room := { frames := 6, cells := 1, slots := 6, locals := 134 }
set_option maxRecDepth 100000 in
theorem c_X2_beginOfPiece {l : Launch} {s0 : State} {G : gK} {w : wd} (h0 : gS0 s0) (htr : l.stackTraces = false) {a r bb : Nat} {n : Int} {C B : Int → Int} {p : Int} (ht : tX G w a r bb n C B) (hp : inr p) : gM l s0 G yX2_beginOfPiece [Cond.code yX2_beginOfPiece cX2_beginOfPiece 3 (some .int)] rmc_X2_beginOfPiece [rv a, iv p] w (fun v w' => (v = some (iv (pbg n C p)) ∧ w' = w) ∧ 0 ≤ p ∧ 0 ≤ pbg n C p ∧ pbg n C p < n) (fun X w' => X = "java/lang/IndexOutOfBoundsException" ∧ w' = w ∧ ¬ (0 ≤ p ∧ 0 ≤ pbg n C p)) := by
  refine g_of h0 htr (by decide +kernel) (Nat.le_of_ble_eq_true rfl) ?_
  intro b Z0 E
  have Z : gAm b l s0 G cX2_beginOfPiece RX2 3 rmc_X2_beginOfPiece := Z0
  refine x_el (L' := [(0, rv a), (1, iv p)]) rfl ?_
  obtain ⟨ha, hr, hb, hn0, hn30, hC⟩ := id ht
  refine x_aload_n Z dX2_beginOfPiece_0 rfl rfl ?_
  refine x_iload_n Z dX2_beginOfPiece_1 rfl rfl ?_
  refine x_callV (ci := 2) (C := RX1) (T := TX1) (N := 3) Z okX1_beginOf q481 q482 q483 rfl dX2_beginOfPiece_2 (c_X1_beginOf h0 htr ht (by assumption)) ht.1 ⟨Nat.le_of_ble_eq_true rfl, Nat.le_of_ble_eq_true rfl, Nat.le_of_ble_eq_true rfl, Nat.le_of_ble_eq_true rfl⟩ rfl rfl (Nat.le_of_ble_eq_true rfl) (fun v9 w9 hR => ?_)
  obtain ⟨z, rfl, e9, hz⟩ := hR
  refine x_ew e9 ?_
  simp only [Option.toList_some, Option.toList_none, List.cons_append, List.nil_append]
  refine x_istore_n (L' := [(2, _), (0, _), (1, _)]) Z dX2_beginOfPiece_5 rfl (Nat.le_of_ble_eq_true rfl) rfl ?_
  refine x_iload_n Z dX2_beginOfPiece_6 rfl rfl ?_
  refine x_iconst Z dX2_beginOfPiece_7 ?_
  refine x_icmp_ne Z 19 dX2_beginOfPiece_8 (by decide) ⟨by omega, by omega⟩ ⟨by omega, by omega⟩ (fun c8 => ?_) (fun c8 => ?_)
  ·
    refine x_iload_n Z dX2_beginOfPiece_19 rfl rfl ?_
    obtain ⟨ez, y1, y2, y3⟩ : z = pbg n C p ∧ 0 ≤ p ∧ 0 ≤ z ∧ z < n := by { rcases hz with h | h; exact h; exact absurd h.1 c8 }
    exact x_iret Z E (⟨⟨by rw [ez], rfl⟩, y1, by omega, by omega⟩) dX2_beginOfPiece_20 (Nat.le_of_ble_eq_true rfl) (Nat.le_of_ble_eq_true rfl)
  ·
    exact x_thr Z E (cls := "java/lang/IndexOutOfBoundsException") (ik := 47) (ic := 49) (by decide +kernel) wsIO dX2_beginOfPiece_11 dX2_beginOfPiece_14 dX2_beginOfPiece_15 dX2_beginOfPiece_18 (Nat.le_of_ble_eq_true rfl) (Nat.le_of_ble_eq_true rfl) (Nat.le_of_ble_eq_true rfl) (Nat.le_of_ble_eq_true rfl) ⟨rfl, rfl, fun h => by omega⟩
abbrev rmc_X2_acted : Room := { frames := 0, cells := 0, slots := 0, locals := 0 }
set_option maxRecDepth 100000 in
theorem c_X2_acted {l : Launch} {s0 : State} {G : gK} {w : wd} (h0 : gS0 s0) (htr : l.stackTraces = false) {K : kA} {M : kM} {z : Int} (hS : kS G w K M) : gM l s0 G yX2_acted [Cond.code yX2_acted cX2_acted 2 (some .int)] rmc_X2_acted [rv K.1, iv z] w (fun v w' => v = some (iv z) ∧ kS G w' K (M.1, M.2.1, M.2.2.1 + 1, M.2.2.2.1, M.2.2.2.2) ∧ fr (kP K) w w') (noX) := by
  refine g_of h0 htr (by decide +kernel) (Nat.le_of_ble_eq_true rfl) ?_
  intro b Z0 E
  have Z : gAm b l s0 G cX2_acted RX2 2 rmc_X2_acted := Z0
  refine x_el (L' := [(0, rv K.1), (1, iv z)]) rfl ?_
  obtain ⟨hk1, ⟨f0, hk2, hk3⟩, hk4, hk5⟩ := id hS
  have hf0 : fr (kP K) w w := fr.rf
  refine x_aload_n Z dX2_acted_0 rfl rfl ?_
  refine x_dup Z dX2_acted_1 rfl ?_
  refine x_getf (ci := 3) (j := 1) (C := RX2) (T := TX2) (N := 4) Z inX2g rfl (by decide) q85 rfl dX2_acted_2 (by assumption) rfl ?_
  refine x_iconst Z dX2_acted_5 ?_
  refine x_iadd Z dX2_acted_6 ?_
  refine x_putf (ci := 3) (j := 1) (C := RX2) (T := TX2) (N := 4) (fs' := [_, _, _, _]) Z tyX2 tyX2_ok nmX2 inX2g rfl (by decide) q85 rfl rfl rfl rfl rfl dX2_acted_7 (by assumption) (by exact Nat.le_of_ble_eq_true rfl) rfl ?_
  refine x_iload_n Z dX2_acted_10 rfl rfl ?_
  exact x_iret Z E (⟨rfl, hS.cnt _ _ _, fr.rf.set (Or.inl rfl)⟩) dX2_acted_11 (Nat.le_of_ble_eq_true rfl) (Nat.le_of_ble_eq_true rfl)
abbrev rmc_X2_refused : Room := { frames := 0, cells := 0, slots := 0, locals := 0 }
set_option maxRecDepth 100000 in
theorem c_X2_refused {l : Launch} {s0 : State} {G : gK} {w : wd} (h0 : gS0 s0) (htr : l.stackTraces = false) {K : kA} {M : kM} (hS : kS G w K M) : gM l s0 G yX2_refused [Cond.code yX2_refused cX2_refused 1 (some .int)] rmc_X2_refused [rv K.1] w (fun v w' => v = some (iv (-9)) ∧ kS G w' K (M.1, M.2.1, M.2.2.1, M.2.2.2.1 + 1, M.2.2.2.2) ∧ fr (kP K) w w') (noX) := by
  refine g_of h0 htr (by decide +kernel) (Nat.le_of_ble_eq_true rfl) ?_
  intro b Z0 E
  have Z : gAm b l s0 G cX2_refused RX2 1 rmc_X2_refused := Z0
  refine x_el (L' := [(0, rv K.1)]) rfl ?_
  obtain ⟨hk1, ⟨f0, hk2, hk3⟩, hk4, hk5⟩ := id hS
  have hf0 : fr (kP K) w w := fr.rf
  refine x_aload_n Z dX2_refused_0 rfl rfl ?_
  refine x_dup Z dX2_refused_1 rfl ?_
  refine x_getf (ci := 3) (j := 2) (C := RX2) (T := TX2) (N := 4) Z inX2g rfl (by decide) q86 rfl dX2_refused_2 (by assumption) rfl ?_
  refine x_iconst Z dX2_refused_5 ?_
  refine x_iadd Z dX2_refused_6 ?_
  refine x_putf (ci := 3) (j := 2) (C := RX2) (T := TX2) (N := 4) (fs' := [_, _, _, _]) Z tyX2 tyX2_ok nmX2 inX2g rfl (by decide) q86 rfl rfl rfl rfl rfl dX2_refused_7 (by assumption) (by exact Nat.le_of_ble_eq_true rfl) rfl ?_
  refine x_bipush Z dX2_refused_10 (by decide +kernel) ?_
  exact x_iret Z E (⟨rfl, hS.cnt _ _ _, fr.rf.set (Or.inl rfl)⟩) dX2_refused_12 (Nat.le_of_ble_eq_true rfl) (Nat.le_of_ble_eq_true rfl)
abbrev rmc_X2_knock : Room := { frames := 0, cells := 0, slots := 0, locals := 0 }
set_option maxRecDepth 100000 in
theorem c_X2_knock {l : Launch} {s0 : State} {G : gK} {w : wd} (h0 : gS0 s0) (htr : l.stackTraces = false) {K : kA} {M : kM} (hS : kS G w K M) : gM l s0 G yX2_knock [Cond.code yX2_knock cX2_knock 1 (some .int)] rmc_X2_knock [rv K.1] w (fun v w' => v = some (iv (M.2.2.2.2 + 1)) ∧ kS G w' K (M.1, M.2.1, M.2.2.1, M.2.2.2.1, M.2.2.2.2 + 1) ∧ fr (kP K) w w') (noX) := by
  refine g_of h0 htr (by decide +kernel) (Nat.le_of_ble_eq_true rfl) ?_
  intro b Z0 E
  have Z : gAm b l s0 G cX2_knock RX2 1 rmc_X2_knock := Z0
  refine x_el (L' := [(0, rv K.1)]) rfl ?_
  obtain ⟨hk1, ⟨f0, hk2, hk3⟩, hk4, hk5⟩ := id hS
  have hf0 : fr (kP K) w w := fr.rf
  refine x_aload_n Z dX2_knock_0 rfl rfl ?_
  refine x_dup Z dX2_knock_1 rfl ?_
  refine x_getf (ci := 3) (j := 3) (C := RX2) (T := TX2) (N := 4) Z inX2g rfl (by decide) q87 rfl dX2_knock_2 (by assumption) rfl ?_
  refine x_iconst Z dX2_knock_5 ?_
  refine x_iadd Z dX2_knock_6 ?_
  refine x_putf (ci := 3) (j := 3) (C := RX2) (T := TX2) (N := 4) (fs' := [_, _, _, _]) Z tyX2 tyX2_ok nmX2 inX2g rfl (by decide) q87 rfl rfl rfl rfl rfl dX2_knock_7 (by assumption) (by exact Nat.le_of_ble_eq_true rfl) rfl ?_
  refine x_aload_n Z dX2_knock_10 rfl rfl ?_
  refine x_getf (ci := 3) (j := 3) (C := RX2) (T := TX2) (N := 4) Z inX2g rfl (by decide) q87 rfl dX2_knock_11 ws1_s rfl ?_
  exact x_iret Z E (⟨rfl, hS.cnt _ _ _, fr.rf.set (Or.inl rfl)⟩) dX2_knock_14 (Nat.le_of_ble_eq_true rfl) (Nat.le_of_ble_eq_true rfl)
abbrev rmc_X2_inserted : Room := { frames := 2, cells := 0, slots := 0, locals := 45 }
set_option maxRecDepth 100000 in
theorem c_X2_inserted {l : Launch} {s0 : State} {G : gK} {w : wd} (h0 : gS0 s0) (htr : l.stackTraces = false) {K : kA} {M : kM} {i p s : Int} (hS : kS G w K M) (hp0i : 0 ≤ i) (hp3i : i < 3) (h1 : 0 ≤ p) (h2 : p ≤ M.1 i) (h3 : 0 ≤ s) (h4 : s ≤ 255) : gM l s0 G yX2_inserted [Cond.code yX2_inserted cX2_inserted 4 (some .int)] rmc_X2_inserted [rv K.1, rv (K.2.2.1 i), iv p, iv s] w (fun v w' => ∃ z : Int, v = some (iv z) ∧ kAct G w K M (acIns M.1 M.2.1 i p s) z w') (noX) := by
  refine g_of h0 htr (by decide +kernel) (Nat.le_of_ble_eq_true rfl) ?_
  intro b Z0 E
  have Z : gAm b l s0 G cX2_inserted RX2 4 rmc_X2_inserted := Z0
  refine x_el (L' := [(0, rv K.1), (1, rv (K.2.2.1 i)), (2, iv p), (3, iv s)]) rfl ?_
  obtain ⟨hk1, ⟨f0, hk2, hk3⟩, hk4, hk5⟩ := id hS
  have hf0 : fr (kP K) w w := fr.rf
  obtain ⟨B, ht⟩ := hS.2.2.1 i hp0i hp3i
  obtain ⟨ha, hr, hb, hn0, hn30, hC⟩ := id ht
  refine x_aload_n Z dX2_inserted_0 rfl rfl ?_
  refine x_callV (ci := 2) (C := RX1) (T := TX1) (N := 3) Z okX1_size q217 q218 q219 rfl dX2_inserted_1 (c_X1_size h0 htr ht) ht.1 ⟨Nat.le_of_ble_eq_true rfl, Nat.le_of_ble_eq_true rfl, Nat.le_of_ble_eq_true rfl, Nat.le_of_ble_eq_true rfl⟩ rfl rfl (Nat.le_of_ble_eq_true rfl) (fun v9 w9 hR => ?_)
  obtain ⟨rfl, e9⟩ := hR
  refine x_ew e9 ?_
  simp only [Option.toList_some, Option.toList_none, List.cons_append, List.nil_append]
  refine x_bipush Z dX2_inserted_4 (by decide +kernel) ?_
  refine x_icmp_lt Z 14 dX2_inserted_6 (by decide) ⟨by omega, by omega⟩ ⟨by omega, by omega⟩ (fun c6 => ?_) (fun c6 => ?_)
  ·
    refine x_aload_n Z dX2_inserted_14 rfl rfl ?_
    refine x_iload_n Z dX2_inserted_15 rfl rfl ?_
    refine x_iload_n Z dX2_inserted_16 rfl rfl ?_
    refine x_callV (ci := 2) (C := RX1) (T := TX1) (N := 3) Z okX1_insertSign q343 q344 q345 rfl dX2_inserted_17 (c_X1_insertSign h0 htr ht (by omega) (by omega) (by omega) (by omega) (by omega)) ht.1 ⟨Nat.le_of_ble_eq_true rfl, Nat.le_of_ble_eq_true rfl, Nat.le_of_ble_eq_true rfl, Nat.le_of_ble_eq_true rfl⟩ rfl rfl (Nat.le_of_ble_eq_true rfl) (fun v9 w9 hR => ?_)
    obtain ⟨rfl, ht, hf9⟩ := hR
    obtain ⟨ha, hr, hb, hn0, hn30, hC⟩ := id ht
    simp only [Option.toList_some, Option.toList_none, List.cons_append, List.nil_append]
    have hS := hS.put hp0i hp3i ht hf9
    have hf0 := hf0.tr (hf9.mono (kP_t hp0i hp3i))
    refine x_aload_n Z dX2_inserted_20 rfl rfl ?_
    refine x_aload_n Z dX2_inserted_21 rfl rfl ?_
    refine x_callV (ci := 2) (C := RX1) (T := TX1) (N := 3) Z okX1_size q217 q218 q219 rfl dX2_inserted_22 (c_X1_size h0 htr ht) ht.1 ⟨Nat.le_of_ble_eq_true rfl, Nat.le_of_ble_eq_true rfl, Nat.le_of_ble_eq_true rfl, Nat.le_of_ble_eq_true rfl⟩ rfl rfl (Nat.le_of_ble_eq_true rfl) (fun v9 w9 hR => ?_)
    obtain ⟨rfl, e9⟩ := hR
    refine x_ew e9 ?_
    simp only [Option.toList_some, Option.toList_none, List.cons_append, List.nil_append]
    refine x_callV (ci := 3) (C := RX2) (T := TX2) (N := 4) Z okX2_acted q351 q353 q6 rfl dX2_inserted_25 (c_X2_acted h0 htr hS) hS.1 ⟨Nat.le_of_ble_eq_true rfl, Nat.le_of_ble_eq_true rfl, Nat.le_of_ble_eq_true rfl, Nat.le_of_ble_eq_true rfl⟩ rfl rfl (Nat.le_of_ble_eq_true rfl) (fun v9 w9 hR => ?_)
    obtain ⟨rfl, hS, hf9⟩ := hR
    have hf0 := hf0.tr hf9
    simp only [Option.toList_some, Option.toList_none, List.cons_append, List.nil_append]
    exact x_iret Z E (⟨_, rfl, ⟨_, hS, aDo.mk (by unfold acIns; rw [if_neg (by omega)]) rfl tEq.rf, hf0⟩⟩) dX2_inserted_28 (Nat.le_of_ble_eq_true rfl) (Nat.le_of_ble_eq_true rfl)
  ·
    refine x_aload_n Z dX2_inserted_9 rfl rfl ?_
    refine x_callV (ci := 3) (C := RX2) (T := TX2) (N := 4) Z okX2_refused q339 q341 q5 rfl dX2_inserted_10 (c_X2_refused h0 htr hS) hS.1 ⟨Nat.le_of_ble_eq_true rfl, Nat.le_of_ble_eq_true rfl, Nat.le_of_ble_eq_true rfl, Nat.le_of_ble_eq_true rfl⟩ rfl rfl (Nat.le_of_ble_eq_true rfl) (fun v9 w9 hR => ?_)
    obtain ⟨rfl, hS, hf9⟩ := hR
    have hf0 := hf0.tr hf9
    simp only [Option.toList_some, Option.toList_none, List.cons_append, List.nil_append]
    exact x_iret Z E (⟨_, rfl, ⟨_, hS, aDo.no (t := i) (by unfold acIns; rw [if_pos (by omega)]), hf0⟩⟩) dX2_inserted_13 (Nat.le_of_ble_eq_true rfl) (Nat.le_of_ble_eq_true rfl)
abbrev rmc_X2_add : Room := { frames := 7, cells := 2, slots := 12, locals := 121 }
set_option maxRecDepth 100000 in
theorem c_X2_add {l : Launch} {s0 : State} {G : gK} {w : wd} (h0 : gS0 s0) (htr : l.stackTraces = false) {K : kA} {M : kM} {t : Int} {s : Int} (hS : kS G w K M) (ht : inr t) (hs : inr s) : gM l s0 G yX2_add [Cond.code yX2_add cX2_add 4 (some .int)] rmc_X2_add [rv K.1, iv t, iv s] w (fun v w' => (∃ z : Int, v = some (iv z) ∧ kAct G w K M (acIns M.1 M.2.1 t (M.1 t) s) z w') ∧ ((0 ≤ t ∧ t < 3) ∧ 0 ≤ s ∧ s < 256)) (fun X w' => ((X = "java/lang/IndexOutOfBoundsException" ∧ ¬ (0 ≤ t ∧ t < 3)) ∨ (X = "java/lang/IllegalArgumentException" ∧ (0 ≤ t ∧ t < 3) ∧ ¬ (0 ≤ s ∧ s < 256))) ∧ w' = w) := by
  refine g_of h0 htr (by decide +kernel) (Nat.le_of_ble_eq_true rfl) ?_
  intro b Z0 E
  have Z : gAm b l s0 G cX2_add RX2 4 rmc_X2_add := Z0
  refine x_el (L' := [(0, rv K.1), (1, iv t), (2, iv s)]) rfl ?_
  obtain ⟨hk1, ⟨f0, hk2, hk3⟩, hk4, hk5⟩ := id hS
  have hf0 : fr (kP K) w w := fr.rf
  refine x_aload_n Z dX2_add_0 rfl rfl ?_
  refine x_iload_n Z dX2_add_1 rfl rfl ?_
  refine x_callVx (ci := 3) (C := RX2) (T := TX2) (N := 4) Z okX2_textAt q313 q315 q3 rfl dX2_add_2 (c_X2_textAt h0 htr hS (by assumption)) hS.1 ⟨Nat.le_of_ble_eq_true rfl, Nat.le_of_ble_eq_true rfl, Nat.le_of_ble_eq_true rfl, Nat.le_of_ble_eq_true rfl⟩ rfl rfl (Nat.le_of_ble_eq_true rfl) (fun X w9 hX => x_out Z E (⟨Or.inl ⟨hX.1, fun h => hX.2.2 (by omega)⟩, hX.2.1⟩) (Nat.le_of_ble_eq_true rfl) (Nat.le_of_ble_eq_true rfl)) (fun v9 w9 hR => ?_)
  obtain ⟨⟨rfl, e9⟩, hp0t, hp3t⟩ := hR
  refine x_ew e9 ?_
  simp only [Option.toList_some, Option.toList_none, List.cons_append, List.nil_append]
  obtain ⟨B, ht⟩ := hS.2.2.1 t hp0t hp3t
  obtain ⟨ha, hr, hb, hn0, hn30, hC⟩ := id ht
  have hm0 := hn0
  have hm30 := hn30
  have hmC := hC
  refine x_astore_n (L' := [(3, _), (0, _), (1, _), (2, _)]) Z dX2_add_5 rfl (Nat.le_of_ble_eq_true rfl) rfl ?_
  refine x_iload_n Z dX2_add_6 rfl rfl ?_
  refine x_callSx Z okX2_checkSign q332 q333 dX2_add_7 (c_X2_checkSign h0 htr (by assumption)) ⟨Nat.le_of_ble_eq_true rfl, Nat.le_of_ble_eq_true rfl, Nat.le_of_ble_eq_true rfl, Nat.le_of_ble_eq_true rfl⟩ rfl rfl (Nat.le_of_ble_eq_true rfl) (fun X w9 hX => x_out Z E (⟨Or.inr ⟨hX.1, by omega, fun h => hX.2.2 (by omega)⟩, hX.2.1⟩) (Nat.le_of_ble_eq_true rfl) (Nat.le_of_ble_eq_true rfl)) (fun v9 w9 hR => ?_)
  obtain ⟨⟨rfl, e9⟩, hq0, hq9⟩ := hR
  refine x_ew e9 ?_
  simp only [Option.toList_some, Option.toList_none, List.cons_append, List.nil_append]
  refine x_aload_n Z dX2_add_10 rfl rfl ?_
  refine x_aload_n Z dX2_add_11 rfl rfl ?_
  refine x_aload_n Z dX2_add_12 rfl rfl ?_
  refine x_callV (ci := 2) (C := RX1) (T := TX1) (N := 3) Z okX1_size q217 q218 q219 rfl dX2_add_13 (c_X1_size h0 htr ht) ht.1 ⟨Nat.le_of_ble_eq_true rfl, Nat.le_of_ble_eq_true rfl, Nat.le_of_ble_eq_true rfl, Nat.le_of_ble_eq_true rfl⟩ rfl rfl (Nat.le_of_ble_eq_true rfl) (fun v9 w9 hR => ?_)
  obtain ⟨rfl, e9⟩ := hR
  refine x_ew e9 ?_
  simp only [Option.toList_some, Option.toList_none, List.cons_append, List.nil_append]
  refine x_iload_n Z dX2_add_16 rfl rfl ?_
  refine x_callV (ci := 3) (C := RX2) (T := TX2) (N := 4) Z okX2_inserted q335 q337 q4 rfl dX2_add_17 (c_X2_inserted h0 htr hS (by assumption) (by assumption) (by omega) (by omega) (by omega) (by omega)) hS.1 ⟨Nat.le_of_ble_eq_true rfl, Nat.le_of_ble_eq_true rfl, Nat.le_of_ble_eq_true rfl, Nat.le_of_ble_eq_true rfl⟩ rfl rfl (Nat.le_of_ble_eq_true rfl) (fun v9 w9 hR => ?_)
  obtain ⟨z, rfl, hA9⟩ := hR
  simp only [Option.toList_some, Option.toList_none, List.cons_append, List.nil_append]
  exact x_iret Z E (⟨⟨_, rfl, hA9⟩, by omega⟩) dX2_add_20 (Nat.le_of_ble_eq_true rfl) (Nat.le_of_ble_eq_true rfl)
abbrev rmc_X2_put : Room := { frames := 7, cells := 3, slots := 18, locals := 121 }
set_option maxRecDepth 100000 in
theorem c_X2_put {l : Launch} {s0 : State} {G : gK} {w : wd} (h0 : gS0 s0) (htr : l.stackTraces = false) {K : kA} {M : kM} {t : Int} {p : Int} {s : Int} (hS : kS G w K M) (ht : inr t) (hp : inr p) (hs : inr s) : gM l s0 G yX2_put [Cond.code yX2_put cX2_put 6 (some .int)] rmc_X2_put [rv K.1, iv t, iv p, iv s] w (fun v w' => (∃ z : Int, v = some (iv z) ∧ kAct G w K M (acPut M.1 M.2.1 t p s) z w') ∧ (((0 ≤ t ∧ t < 3) ∧ 0 ≤ p ∧ p < M.1 t) ∧ 0 ≤ s ∧ s < 256)) (fun X w' => ((X = "java/lang/IndexOutOfBoundsException" ∧ ¬ ((0 ≤ t ∧ t < 3) ∧ 0 ≤ p ∧ p < M.1 t)) ∨ (X = "java/lang/IllegalArgumentException" ∧ ((0 ≤ t ∧ t < 3) ∧ 0 ≤ p ∧ p < M.1 t) ∧ ¬ (0 ≤ s ∧ s < 256))) ∧ w' = w) := by
  refine g_of h0 htr (by decide +kernel) (Nat.le_of_ble_eq_true rfl) ?_
  intro b Z0 E
  have Z : gAm b l s0 G cX2_put RX2 6 rmc_X2_put := Z0
  refine x_el (L' := [(0, rv K.1), (1, iv t), (2, iv p), (3, iv s)]) rfl ?_
  obtain ⟨hk1, ⟨f0, hk2, hk3⟩, hk4, hk5⟩ := id hS
  have hf0 : fr (kP K) w w := fr.rf
  refine x_aload_n Z dX2_put_0 rfl rfl ?_
  refine x_iload_n Z dX2_put_1 rfl rfl ?_
  refine x_callVx (ci := 3) (C := RX2) (T := TX2) (N := 4) Z okX2_textAt q313 q315 q3 rfl dX2_put_2 (c_X2_textAt h0 htr hS (by assumption)) hS.1 ⟨Nat.le_of_ble_eq_true rfl, Nat.le_of_ble_eq_true rfl, Nat.le_of_ble_eq_true rfl, Nat.le_of_ble_eq_true rfl⟩ rfl rfl (Nat.le_of_ble_eq_true rfl) (fun X w9 hX => x_out Z E (⟨Or.inl ⟨hX.1, fun h => hX.2.2 (by omega)⟩, hX.2.1⟩) (Nat.le_of_ble_eq_true rfl) (Nat.le_of_ble_eq_true rfl)) (fun v9 w9 hR => ?_)
  obtain ⟨⟨rfl, e9⟩, hp0t, hp3t⟩ := hR
  refine x_ew e9 ?_
  simp only [Option.toList_some, Option.toList_none, List.cons_append, List.nil_append]
  obtain ⟨B, ht⟩ := hS.2.2.1 t hp0t hp3t
  obtain ⟨ha, hr, hb, hn0, hn30, hC⟩ := id ht
  have hm0 := hn0
  have hm30 := hn30
  have hmC := hC
  refine x_astore (L' := [(4, _), (0, _), (1, _), (2, _), (3, _)]) Z dX2_put_5 (Nat.le_of_ble_eq_true rfl) rfl ?_
  refine x_aload Z dX2_put_7 rfl ?_
  refine x_iload_n Z dX2_put_9 rfl rfl ?_
  refine x_callSx Z okX2_checkPlace q362 q363 dX2_put_10 (c_X2_checkPlace h0 htr ht (by assumption)) ⟨Nat.le_of_ble_eq_true rfl, Nat.le_of_ble_eq_true rfl, Nat.le_of_ble_eq_true rfl, Nat.le_of_ble_eq_true rfl⟩ rfl rfl (Nat.le_of_ble_eq_true rfl) (fun X w9 hX => x_out Z E (⟨Or.inl ⟨hX.1, fun h => hX.2.2 (by omega)⟩, hX.2.1⟩) (Nat.le_of_ble_eq_true rfl) (Nat.le_of_ble_eq_true rfl)) (fun v9 w9 hR => ?_)
  obtain ⟨⟨rfl, e9⟩, hl0, hl9⟩ := hR
  refine x_ew e9 ?_
  simp only [Option.toList_some, Option.toList_none, List.cons_append, List.nil_append]
  refine x_iload_n Z dX2_put_13 rfl rfl ?_
  refine x_callSx Z okX2_checkSign q332 q333 dX2_put_14 (c_X2_checkSign h0 htr (by assumption)) ⟨Nat.le_of_ble_eq_true rfl, Nat.le_of_ble_eq_true rfl, Nat.le_of_ble_eq_true rfl, Nat.le_of_ble_eq_true rfl⟩ rfl rfl (Nat.le_of_ble_eq_true rfl) (fun X w9 hX => x_out Z E (⟨Or.inr ⟨hX.1, by omega, fun h => hX.2.2 (by omega)⟩, hX.2.1⟩) (Nat.le_of_ble_eq_true rfl) (Nat.le_of_ble_eq_true rfl)) (fun v9 w9 hR => ?_)
  obtain ⟨⟨rfl, e9⟩, hq0, hq9⟩ := hR
  refine x_ew e9 ?_
  simp only [Option.toList_some, Option.toList_none, List.cons_append, List.nil_append]
  refine x_aload Z dX2_put_17 rfl ?_
  refine x_iload_n Z dX2_put_19 rfl rfl ?_
  refine x_callV (ci := 2) (C := RX1) (T := TX1) (N := 3) Z okX1_signAt q365 q126 q127 rfl dX2_put_20 (c_X1_signAt h0 htr ht (by omega) (by omega)) ht.1 ⟨Nat.le_of_ble_eq_true rfl, Nat.le_of_ble_eq_true rfl, Nat.le_of_ble_eq_true rfl, Nat.le_of_ble_eq_true rfl⟩ rfl rfl (Nat.le_of_ble_eq_true rfl) (fun v9 w9 hR => ?_)
  obtain ⟨rfl, e9⟩ := hR
  refine x_ew e9 ?_
  simp only [Option.toList_some, Option.toList_none, List.cons_append, List.nil_append]
  refine x_istore (L' := [(5, _), (4, _), (0, _), (1, _), (2, _), (3, _)]) Z dX2_put_23 (Nat.le_of_ble_eq_true rfl) rfl ?_
  refine x_aload Z dX2_put_25 rfl ?_
  refine x_iload_n Z dX2_put_27 rfl rfl ?_
  refine x_iload_n Z dX2_put_28 rfl rfl ?_
  refine x_callV (ci := 2) (C := RX1) (T := TX1) (N := 3) Z okX1_setSign q366 q348 q349 rfl dX2_put_29 (c_X1_setSign h0 htr ht (by omega) (by omega) (by omega) (by omega)) ht.1 ⟨Nat.le_of_ble_eq_true rfl, Nat.le_of_ble_eq_true rfl, Nat.le_of_ble_eq_true rfl, Nat.le_of_ble_eq_true rfl⟩ rfl rfl (Nat.le_of_ble_eq_true rfl) (fun v9 w9 hR => ?_)
  obtain ⟨rfl, ht, hf9⟩ := hR
  obtain ⟨ha, hr, hb, hn0, hn30, hC⟩ := id ht
  simp only [Option.toList_some, Option.toList_none, List.cons_append, List.nil_append]
  have hS := hS.put hp0t hp3t ht hf9
  have hf0 := hf0.tr (hf9.mono (kP_t hp0t hp3t))
  refine x_aload_n Z dX2_put_32 rfl rfl ?_
  refine x_iload Z dX2_put_33 rfl ?_
  refine x_callV (ci := 3) (C := RX2) (T := TX2) (N := 4) Z okX2_acted q351 q353 q6 rfl dX2_put_35 (c_X2_acted h0 htr hS) hS.1 ⟨Nat.le_of_ble_eq_true rfl, Nat.le_of_ble_eq_true rfl, Nat.le_of_ble_eq_true rfl, Nat.le_of_ble_eq_true rfl⟩ rfl rfl (Nat.le_of_ble_eq_true rfl) (fun v9 w9 hR => ?_)
  obtain ⟨rfl, hS, hf9⟩ := hR
  have hf0 := hf0.tr hf9
  simp only [Option.toList_some, Option.toList_none, List.cons_append, List.nil_append]
  exact x_iret Z E (⟨⟨_, rfl, ⟨_, hS, aDo.mk rfl rfl tEq.rf, hf0⟩⟩, by omega⟩) dX2_put_38 (Nat.le_of_ble_eq_true rfl) (Nat.le_of_ble_eq_true rfl)
abbrev rmc_X2_insert : Room := { frames := 7, cells := 3, slots := 18, locals := 121 }
set_option maxRecDepth 100000 in
theorem c_X2_insert {l : Launch} {s0 : State} {G : gK} {w : wd} (h0 : gS0 s0) (htr : l.stackTraces = false) {K : kA} {M : kM} {t : Int} {p : Int} {s : Int} (hS : kS G w K M) (ht : inr t) (hp : inr p) (hs : inr s) : gM l s0 G yX2_insert [Cond.code yX2_insert cX2_insert 5 (some .int)] rmc_X2_insert [rv K.1, iv t, iv p, iv s] w (fun v w' => (∃ z : Int, v = some (iv z) ∧ kAct G w K M (acIns M.1 M.2.1 t p s) z w') ∧ (((0 ≤ t ∧ t < 3) ∧ 0 ≤ p ∧ p ≤ M.1 t) ∧ 0 ≤ s ∧ s < 256)) (fun X w' => ((X = "java/lang/IndexOutOfBoundsException" ∧ ¬ ((0 ≤ t ∧ t < 3) ∧ 0 ≤ p ∧ p ≤ M.1 t)) ∨ (X = "java/lang/IllegalArgumentException" ∧ ((0 ≤ t ∧ t < 3) ∧ 0 ≤ p ∧ p ≤ M.1 t) ∧ ¬ (0 ≤ s ∧ s < 256))) ∧ w' = w) := by
  refine g_of h0 htr (by decide +kernel) (Nat.le_of_ble_eq_true rfl) ?_
  intro b Z0 E
  have Z : gAm b l s0 G cX2_insert RX2 5 rmc_X2_insert := Z0
  refine x_el (L' := [(0, rv K.1), (1, iv t), (2, iv p), (3, iv s)]) rfl ?_
  obtain ⟨hk1, ⟨f0, hk2, hk3⟩, hk4, hk5⟩ := id hS
  have hf0 : fr (kP K) w w := fr.rf
  refine x_aload_n Z dX2_insert_0 rfl rfl ?_
  refine x_iload_n Z dX2_insert_1 rfl rfl ?_
  refine x_callVx (ci := 3) (C := RX2) (T := TX2) (N := 4) Z okX2_textAt q313 q315 q3 rfl dX2_insert_2 (c_X2_textAt h0 htr hS (by assumption)) hS.1 ⟨Nat.le_of_ble_eq_true rfl, Nat.le_of_ble_eq_true rfl, Nat.le_of_ble_eq_true rfl, Nat.le_of_ble_eq_true rfl⟩ rfl rfl (Nat.le_of_ble_eq_true rfl) (fun X w9 hX => x_out Z E (⟨Or.inl ⟨hX.1, fun h => hX.2.2 (by omega)⟩, hX.2.1⟩) (Nat.le_of_ble_eq_true rfl) (Nat.le_of_ble_eq_true rfl)) (fun v9 w9 hR => ?_)
  obtain ⟨⟨rfl, e9⟩, hp0t, hp3t⟩ := hR
  refine x_ew e9 ?_
  simp only [Option.toList_some, Option.toList_none, List.cons_append, List.nil_append]
  obtain ⟨B, ht⟩ := hS.2.2.1 t hp0t hp3t
  obtain ⟨ha, hr, hb, hn0, hn30, hC⟩ := id ht
  have hm0 := hn0
  have hm30 := hn30
  have hmC := hC
  refine x_astore (L' := [(4, _), (0, _), (1, _), (2, _), (3, _)]) Z dX2_insert_5 (Nat.le_of_ble_eq_true rfl) rfl ?_
  refine x_iload_n Z dX2_insert_7 rfl rfl ?_
  refine x_if_lt Z 20 dX2_insert_8 (by decide) ⟨by omega, by omega⟩ (fun c8 => ?_) (fun c8 => ?_)
  ·
    exact x_thr Z E (cls := "java/lang/IndexOutOfBoundsException") (ik := 47) (ic := 49) (by decide +kernel) wsIO dX2_insert_20 dX2_insert_23 dX2_insert_24 dX2_insert_27 (Nat.le_of_ble_eq_true rfl) (Nat.le_of_ble_eq_true rfl) (Nat.le_of_ble_eq_true rfl) (Nat.le_of_ble_eq_true rfl) ⟨Or.inl ⟨rfl, by omega⟩, rfl⟩
  ·
    refine x_iload_n Z dX2_insert_11 rfl rfl ?_
    refine x_aload Z dX2_insert_12 rfl ?_
    refine x_callV (ci := 2) (C := RX1) (T := TX1) (N := 3) Z okX1_size q217 q218 q219 rfl dX2_insert_14 (c_X1_size h0 htr ht) ht.1 ⟨Nat.le_of_ble_eq_true rfl, Nat.le_of_ble_eq_true rfl, Nat.le_of_ble_eq_true rfl, Nat.le_of_ble_eq_true rfl⟩ rfl rfl (Nat.le_of_ble_eq_true rfl) (fun v9 w9 hR => ?_)
    obtain ⟨rfl, e9⟩ := hR
    refine x_ew e9 ?_
    simp only [Option.toList_some, Option.toList_none, List.cons_append, List.nil_append]
    refine x_icmp_le Z 28 dX2_insert_17 (by decide) ⟨by omega, by omega⟩ ⟨by omega, by omega⟩ (fun c17 => ?_) (fun c17 => ?_)
    ·
      refine x_iload_n Z dX2_insert_28 rfl rfl ?_
      refine x_callSx Z okX2_checkSign q332 q333 dX2_insert_29 (c_X2_checkSign h0 htr (by assumption)) ⟨Nat.le_of_ble_eq_true rfl, Nat.le_of_ble_eq_true rfl, Nat.le_of_ble_eq_true rfl, Nat.le_of_ble_eq_true rfl⟩ rfl rfl (Nat.le_of_ble_eq_true rfl) (fun X w9 hX => x_out Z E (⟨Or.inr ⟨hX.1, by omega, fun h => hX.2.2 (by omega)⟩, hX.2.1⟩) (Nat.le_of_ble_eq_true rfl) (Nat.le_of_ble_eq_true rfl)) (fun v9 w9 hR => ?_)
      obtain ⟨⟨rfl, e9⟩, hq0, hq9⟩ := hR
      refine x_ew e9 ?_
      simp only [Option.toList_some, Option.toList_none, List.cons_append, List.nil_append]
      refine x_aload_n Z dX2_insert_32 rfl rfl ?_
      refine x_aload Z dX2_insert_33 rfl ?_
      refine x_iload_n Z dX2_insert_35 rfl rfl ?_
      refine x_iload_n Z dX2_insert_36 rfl rfl ?_
      refine x_callV (ci := 3) (C := RX2) (T := TX2) (N := 4) Z okX2_inserted q335 q337 q4 rfl dX2_insert_37 (c_X2_inserted h0 htr hS (by assumption) (by assumption) (by omega) (by omega) (by omega) (by omega)) hS.1 ⟨Nat.le_of_ble_eq_true rfl, Nat.le_of_ble_eq_true rfl, Nat.le_of_ble_eq_true rfl, Nat.le_of_ble_eq_true rfl⟩ rfl rfl (Nat.le_of_ble_eq_true rfl) (fun v9 w9 hR => ?_)
      obtain ⟨z, rfl, hA9⟩ := hR
      simp only [Option.toList_some, Option.toList_none, List.cons_append, List.nil_append]
      exact x_iret Z E (⟨⟨_, rfl, hA9⟩, by omega⟩) dX2_insert_40 (Nat.le_of_ble_eq_true rfl) (Nat.le_of_ble_eq_true rfl)
    ·
      exact x_thr Z E (cls := "java/lang/IndexOutOfBoundsException") (ik := 47) (ic := 49) (by decide +kernel) wsIO dX2_insert_20 dX2_insert_23 dX2_insert_24 dX2_insert_27 (Nat.le_of_ble_eq_true rfl) (Nat.le_of_ble_eq_true rfl) (Nat.le_of_ble_eq_true rfl) (Nat.le_of_ble_eq_true rfl) ⟨Or.inl ⟨rfl, by omega⟩, rfl⟩
abbrev rmc_X2_drop : Room := { frames := 7, cells := 2, slots := 12, locals := 121 }
set_option maxRecDepth 100000 in
theorem c_X2_drop {l : Launch} {s0 : State} {G : gK} {w : wd} (h0 : gS0 s0) (htr : l.stackTraces = false) {K : kA} {M : kM} {t : Int} {p : Int} (hS : kS G w K M) (ht : inr t) (hp : inr p) : gM l s0 G yX2_drop [Cond.code yX2_drop cX2_drop 5 (some .int)] rmc_X2_drop [rv K.1, iv t, iv p] w (fun v w' => (∃ z : Int, v = some (iv z) ∧ kAct G w K M (acDrop M.1 M.2.1 t p) z w') ∧ (0 ≤ t ∧ t < 3) ∧ 0 ≤ p ∧ p < M.1 t) (fun X w' => X = "java/lang/IndexOutOfBoundsException" ∧ w' = w ∧ ¬ ((0 ≤ t ∧ t < 3) ∧ 0 ≤ p ∧ p < M.1 t)) := by
  refine g_of h0 htr (by decide +kernel) (Nat.le_of_ble_eq_true rfl) ?_
  intro b Z0 E
  have Z : gAm b l s0 G cX2_drop RX2 5 rmc_X2_drop := Z0
  refine x_el (L' := [(0, rv K.1), (1, iv t), (2, iv p)]) rfl ?_
  obtain ⟨hk1, ⟨f0, hk2, hk3⟩, hk4, hk5⟩ := id hS
  have hf0 : fr (kP K) w w := fr.rf
  refine x_aload_n Z dX2_drop_0 rfl rfl ?_
  refine x_iload_n Z dX2_drop_1 rfl rfl ?_
  refine x_callVx (ci := 3) (C := RX2) (T := TX2) (N := 4) Z okX2_textAt q313 q315 q3 rfl dX2_drop_2 (c_X2_textAt h0 htr hS (by assumption)) hS.1 ⟨Nat.le_of_ble_eq_true rfl, Nat.le_of_ble_eq_true rfl, Nat.le_of_ble_eq_true rfl, Nat.le_of_ble_eq_true rfl⟩ rfl rfl (Nat.le_of_ble_eq_true rfl) (fun X w9 hX => x_out Z E (⟨hX.1, hX.2.1, fun h => hX.2.2 (by omega)⟩) (Nat.le_of_ble_eq_true rfl) (Nat.le_of_ble_eq_true rfl)) (fun v9 w9 hR => ?_)
  obtain ⟨⟨rfl, e9⟩, hp0t, hp3t⟩ := hR
  refine x_ew e9 ?_
  simp only [Option.toList_some, Option.toList_none, List.cons_append, List.nil_append]
  obtain ⟨B, ht⟩ := hS.2.2.1 t hp0t hp3t
  obtain ⟨ha, hr, hb, hn0, hn30, hC⟩ := id ht
  have hm0 := hn0
  have hm30 := hn30
  have hmC := hC
  refine x_astore_n (L' := [(3, _), (0, _), (1, _), (2, _)]) Z dX2_drop_5 rfl (Nat.le_of_ble_eq_true rfl) rfl ?_
  refine x_aload_n Z dX2_drop_6 rfl rfl ?_
  refine x_iload_n Z dX2_drop_7 rfl rfl ?_
  refine x_callSx Z okX2_checkPlace q362 q363 dX2_drop_8 (c_X2_checkPlace h0 htr ht (by assumption)) ⟨Nat.le_of_ble_eq_true rfl, Nat.le_of_ble_eq_true rfl, Nat.le_of_ble_eq_true rfl, Nat.le_of_ble_eq_true rfl⟩ rfl rfl (Nat.le_of_ble_eq_true rfl) (fun X w9 hX => x_out Z E (⟨hX.1, hX.2.1, fun h => hX.2.2 (by omega)⟩) (Nat.le_of_ble_eq_true rfl) (Nat.le_of_ble_eq_true rfl)) (fun v9 w9 hR => ?_)
  obtain ⟨⟨rfl, e9⟩, hl0, hl9⟩ := hR
  refine x_ew e9 ?_
  simp only [Option.toList_some, Option.toList_none, List.cons_append, List.nil_append]
  refine x_aload_n Z dX2_drop_11 rfl rfl ?_
  refine x_iload_n Z dX2_drop_12 rfl rfl ?_
  refine x_callV (ci := 2) (C := RX1) (T := TX1) (N := 3) Z okX1_signAt q365 q126 q127 rfl dX2_drop_13 (c_X1_signAt h0 htr ht (by omega) (by omega)) ht.1 ⟨Nat.le_of_ble_eq_true rfl, Nat.le_of_ble_eq_true rfl, Nat.le_of_ble_eq_true rfl, Nat.le_of_ble_eq_true rfl⟩ rfl rfl (Nat.le_of_ble_eq_true rfl) (fun v9 w9 hR => ?_)
  obtain ⟨rfl, e9⟩ := hR
  refine x_ew e9 ?_
  simp only [Option.toList_some, Option.toList_none, List.cons_append, List.nil_append]
  refine x_istore (L' := [(4, _), (3, _), (0, _), (1, _), (2, _)]) Z dX2_drop_16 (Nat.le_of_ble_eq_true rfl) rfl ?_
  refine x_aload_n Z dX2_drop_18 rfl rfl ?_
  refine x_aload_n Z dX2_drop_19 rfl rfl ?_
  refine x_callV (ci := 2) (C := RX1) (T := TX1) (N := 3) Z okX1_allPlaces q381 q382 q383 rfl dX2_drop_20 (c_X1_allPlaces h0 htr ht) ht.1 ⟨Nat.le_of_ble_eq_true rfl, Nat.le_of_ble_eq_true rfl, Nat.le_of_ble_eq_true rfl, Nat.le_of_ble_eq_true rfl⟩ rfl rfl (Nat.le_of_ble_eq_true rfl) (fun v9 w9 hR => ?_)
  obtain ⟨rfl, e9⟩ := hR
  refine x_ew e9 ?_
  simp only [Option.toList_some, Option.toList_none, List.cons_append, List.nil_append]
  refine x_iconst Z dX2_drop_23 ?_
  refine x_iload_n Z dX2_drop_24 rfl rfl ?_
  refine x_ishl Z dX2_drop_25 ?_
  refine x_iconst Z dX2_drop_26 ?_
  refine x_ixor Z dX2_drop_27 ?_
  refine x_iand Z dX2_drop_28 ?_
  have hq9 := sft_drop (P := inB (bAnd (bShl 1 (M.1 t) - 1) (bXor (bShl 1 p) (-1)))) (C := M.2.1 t) hl0 hl9 (fun j j0 jn => inB_drop hm0 hm30 hl0 hl9 j0 jn)
  refine x_callV (ci := 2) (C := RX1) (T := TX1) (N := 3) Z okX1_retain q385 q386 q387 rfl dX2_drop_29 (c_X1_retain h0 htr ht) ht.1 ⟨Nat.le_of_ble_eq_true rfl, Nat.le_of_ble_eq_true rfl, Nat.le_of_ble_eq_true rfl, Nat.le_of_ble_eq_true rfl⟩ rfl rfl (Nat.le_of_ble_eq_true rfl) (fun v9 w9 hR => ?_)
  obtain ⟨rfl, B, ht, hf9⟩ := hR
  obtain ⟨ha, hr, hb, hn0, hn30, hC⟩ := id ht
  simp only [Option.toList_some, Option.toList_none, List.cons_append, List.nil_append]
  have hS := hS.put hp0t hp3t ht hf9
  have hf0 := hf0.tr (hf9.mono (kP_t hp0t hp3t))
  refine x_pop Z dX2_drop_32 rfl ?_
  refine x_aload_n Z dX2_drop_33 rfl rfl ?_
  refine x_iload Z dX2_drop_34 rfl ?_
  refine x_callV (ci := 3) (C := RX2) (T := TX2) (N := 4) Z okX2_acted q351 q353 q6 rfl dX2_drop_36 (c_X2_acted h0 htr hS) hS.1 ⟨Nat.le_of_ble_eq_true rfl, Nat.le_of_ble_eq_true rfl, Nat.le_of_ble_eq_true rfl, Nat.le_of_ble_eq_true rfl⟩ rfl rfl (Nat.le_of_ble_eq_true rfl) (fun v9 w9 hR => ?_)
  obtain ⟨rfl, hS, hf9⟩ := hR
  have hf0 := hf0.tr hf9
  simp only [Option.toList_some, Option.toList_none, List.cons_append, List.nil_append]
  exact x_iret Z E (⟨⟨_, rfl, ⟨_, hS, aDo.mk rfl hq9.1 hq9.2, hf0⟩⟩, by omega⟩) dX2_drop_39 (Nat.le_of_ble_eq_true rfl) (Nat.le_of_ble_eq_true rfl)
abbrev rmc_X2_clear : Room := { frames := 7, cells := 1, slots := 6, locals := 121 }
set_option maxRecDepth 100000 in
theorem c_X2_clear {l : Launch} {s0 : State} {G : gK} {w : wd} (h0 : gS0 s0) (htr : l.stackTraces = false) {K : kA} {M : kM} {t : Int} (hS : kS G w K M) (ht : inr t) : gM l s0 G yX2_clear [Cond.code yX2_clear cX2_clear 2 (some .int)] rmc_X2_clear [rv K.1, iv t] w (fun v w' => (∃ z : Int, v = some (iv z) ∧ kAct G w K M (acClear M.1 M.2.1 t) z w') ∧ 0 ≤ t ∧ t < 3) (fun X w' => X = "java/lang/IndexOutOfBoundsException" ∧ w' = w ∧ ¬ (0 ≤ t ∧ t < 3)) := by
  refine g_of h0 htr (by decide +kernel) (Nat.le_of_ble_eq_true rfl) ?_
  intro b Z0 E
  have Z : gAm b l s0 G cX2_clear RX2 2 rmc_X2_clear := Z0
  refine x_el (L' := [(0, rv K.1), (1, iv t)]) rfl ?_
  obtain ⟨hk1, ⟨f0, hk2, hk3⟩, hk4, hk5⟩ := id hS
  have hf0 : fr (kP K) w w := fr.rf
  refine x_aload_n Z dX2_clear_0 rfl rfl ?_
  refine x_aload_n Z dX2_clear_1 rfl rfl ?_
  refine x_iload_n Z dX2_clear_2 rfl rfl ?_
  refine x_callVx (ci := 3) (C := RX2) (T := TX2) (N := 4) Z okX2_textAt q313 q315 q3 rfl dX2_clear_3 (c_X2_textAt h0 htr hS (by assumption)) hS.1 ⟨Nat.le_of_ble_eq_true rfl, Nat.le_of_ble_eq_true rfl, Nat.le_of_ble_eq_true rfl, Nat.le_of_ble_eq_true rfl⟩ rfl rfl (Nat.le_of_ble_eq_true rfl) (fun X w9 hX => x_out Z E (⟨hX.1, hX.2.1, fun h => hX.2.2 (by omega)⟩) (Nat.le_of_ble_eq_true rfl) (Nat.le_of_ble_eq_true rfl)) (fun v9 w9 hR => ?_)
  obtain ⟨⟨rfl, e9⟩, hp0t, hp3t⟩ := hR
  refine x_ew e9 ?_
  simp only [Option.toList_some, Option.toList_none, List.cons_append, List.nil_append]
  obtain ⟨B, ht⟩ := hS.2.2.1 t hp0t hp3t
  obtain ⟨ha, hr, hb, hn0, hn30, hC⟩ := id ht
  have hm0 := hn0
  have hm30 := hn30
  have hmC := hC
  refine x_iconst Z dX2_clear_6 ?_
  refine x_callV (ci := 2) (C := RX1) (T := TX1) (N := 3) Z okX1_retain q385 q386 q387 rfl dX2_clear_7 (c_X1_retain h0 htr ht) ht.1 ⟨Nat.le_of_ble_eq_true rfl, Nat.le_of_ble_eq_true rfl, Nat.le_of_ble_eq_true rfl, Nat.le_of_ble_eq_true rfl⟩ rfl rfl (Nat.le_of_ble_eq_true rfl) (fun v9 w9 hR => ?_)
  obtain ⟨rfl, B, ht, hf9⟩ := hR
  obtain ⟨ha, hr, hb, hn0, hn30, hC⟩ := id ht
  simp only [Option.toList_some, Option.toList_none, List.cons_append, List.nil_append]
  have hS := hS.put hp0t hp3t ht hf9
  have hf0 := hf0.tr (hf9.mono (kP_t hp0t hp3t))
  refine x_callV (ci := 3) (C := RX2) (T := TX2) (N := 4) Z okX2_acted q351 q353 q6 rfl dX2_clear_10 (c_X2_acted h0 htr hS) hS.1 ⟨Nat.le_of_ble_eq_true rfl, Nat.le_of_ble_eq_true rfl, Nat.le_of_ble_eq_true rfl, Nat.le_of_ble_eq_true rfl⟩ rfl rfl (Nat.le_of_ble_eq_true rfl) (fun v9 w9 hR => ?_)
  obtain ⟨rfl, hS, hf9⟩ := hR
  have hf0 := hf0.tr hf9
  simp only [Option.toList_some, Option.toList_none, List.cons_append, List.nil_append]
  have e0 := sft0 (P := inB 0) (n := M.1 t) (C := M.2.1 t) (fun j => inB0 j)
  exact x_iret Z E (⟨⟨_, rfl, ⟨_, hS, aDo.mk (n' := 0) (D := M.2.1 t) (by rw [e0]; exact congrArg (fun z => ((z, t, (0 : Int), M.2.1 t, (1 : Int), (0 : Int)) : oT)) (Int.sub_zero (M.1 t)).symm) (by rw [e0]) (fun j h1 h2 => absurd h2 (by omega)), hf0⟩⟩, by omega⟩) dX2_clear_13 (Nat.le_of_ble_eq_true rfl) (Nat.le_of_ble_eq_true rfl)
abbrev rmc_X2_copy : Room := { frames := 7, cells := 2, slots := 12, locals := 121 }
set_option maxRecDepth 100000 in
theorem c_X2_copy {l : Launch} {s0 : State} {G : gK} {w : wd} (h0 : gS0 s0) (htr : l.stackTraces = false) {K : kA} {M : kM} {t : Int} {u : Int} (hS : kS G w K M) (ht : inr t) (hu : inr u) : gM l s0 G yX2_copy [Cond.code yX2_copy cX2_copy 5 (some .int)] rmc_X2_copy [rv K.1, iv t, iv u] w (fun v w' => (∃ z : Int, v = some (iv z) ∧ kAct G w K M (acCopy M.1 M.2.1 t u) z w') ∧ (0 ≤ t ∧ t < 3) ∧ 0 ≤ u ∧ u < 3) (fun X w' => X = "java/lang/IndexOutOfBoundsException" ∧ w' = w ∧ ¬ ((0 ≤ t ∧ t < 3) ∧ 0 ≤ u ∧ u < 3)) := by
  refine g_of h0 htr (by decide +kernel) (Nat.le_of_ble_eq_true rfl) ?_
  intro b Z0 E
  have Z : gAm b l s0 G cX2_copy RX2 5 rmc_X2_copy := Z0
  refine x_el (L' := [(0, rv K.1), (1, iv t), (2, iv u)]) rfl ?_
  obtain ⟨hk1, ⟨f0, hk2, hk3⟩, hk4, hk5⟩ := id hS
  have hf0 : fr (kP K) w w := fr.rf
  refine x_aload_n Z dX2_copy_0 rfl rfl ?_
  refine x_iload_n Z dX2_copy_1 rfl rfl ?_
  refine x_callVx (ci := 3) (C := RX2) (T := TX2) (N := 4) Z okX2_textAt q313 q315 q3 rfl dX2_copy_2 (c_X2_textAt h0 htr hS (by assumption)) hS.1 ⟨Nat.le_of_ble_eq_true rfl, Nat.le_of_ble_eq_true rfl, Nat.le_of_ble_eq_true rfl, Nat.le_of_ble_eq_true rfl⟩ rfl rfl (Nat.le_of_ble_eq_true rfl) (fun X w9 hX => x_out Z E (⟨hX.1, hX.2.1, fun h => hX.2.2 (by omega)⟩) (Nat.le_of_ble_eq_true rfl) (Nat.le_of_ble_eq_true rfl)) (fun v9 w9 hR => ?_)
  obtain ⟨⟨rfl, e9⟩, hp0t, hp3t⟩ := hR
  refine x_ew e9 ?_
  simp only [Option.toList_some, Option.toList_none, List.cons_append, List.nil_append]
  obtain ⟨B2, ht2⟩ := hS.2.2.1 t hp0t hp3t
  refine x_astore_n (L' := [(3, _), (0, _), (1, _), (2, _)]) Z dX2_copy_5 rfl (Nat.le_of_ble_eq_true rfl) rfl ?_
  refine x_aload_n Z dX2_copy_6 rfl rfl ?_
  refine x_iload_n Z dX2_copy_7 rfl rfl ?_
  refine x_callVx (ci := 3) (C := RX2) (T := TX2) (N := 4) Z okX2_textAt q313 q315 q3 rfl dX2_copy_8 (c_X2_textAt h0 htr hS (by assumption)) hS.1 ⟨Nat.le_of_ble_eq_true rfl, Nat.le_of_ble_eq_true rfl, Nat.le_of_ble_eq_true rfl, Nat.le_of_ble_eq_true rfl⟩ rfl rfl (Nat.le_of_ble_eq_true rfl) (fun X w9 hX => x_out Z E (⟨hX.1, hX.2.1, fun h => hX.2.2 (by omega)⟩) (Nat.le_of_ble_eq_true rfl) (Nat.le_of_ble_eq_true rfl)) (fun v9 w9 hR => ?_)
  obtain ⟨⟨rfl, e9⟩, hp0u, hp3u⟩ := hR
  refine x_ew e9 ?_
  simp only [Option.toList_some, Option.toList_none, List.cons_append, List.nil_append]
  obtain ⟨B, ht⟩ := hS.2.2.1 u hp0u hp3u
  obtain ⟨ha, hr, hb, hn0, hn30, hC⟩ := id ht
  have hm0 := hn0
  have hm30 := hn30
  have hmC := hC
  refine x_astore (L' := [(4, _), (3, _), (0, _), (1, _), (2, _)]) Z dX2_copy_11 (Nat.le_of_ble_eq_true rfl) rfl ?_
  obtain ⟨-, -, -, h2n0, h2n30, -⟩ := id ht2
  refine x_aload Z dX2_copy_13 rfl ?_
  refine x_aload_n Z dX2_copy_15 rfl rfl ?_
  refine x_iconst Z dX2_copy_16 ?_
  refine x_aload_n Z dX2_copy_17 rfl rfl ?_
  refine x_callV (ci := 2) (C := RX1) (T := TX1) (N := 3) Z okX1_size q217 q218 q219 rfl dX2_copy_18 (c_X1_size h0 htr ht2) ht2.1 ⟨Nat.le_of_ble_eq_true rfl, Nat.le_of_ble_eq_true rfl, Nat.le_of_ble_eq_true rfl, Nat.le_of_ble_eq_true rfl⟩ rfl rfl (Nat.le_of_ble_eq_true rfl) (fun v9 w9 hR => ?_)
  obtain ⟨rfl, e9⟩ := hR
  refine x_ew e9 ?_
  simp only [Option.toList_some, Option.toList_none, List.cons_append, List.nil_append]
  refine x_callV (ci := 2) (C := RX1) (T := TX1) (N := 3) Z okX1_become q403 q404 q405 rfl dX2_copy_21 (c_X1_become h0 htr ht ht2 (hS.selfC hp0u hp3u hp0t hp3t) (by omega) (by omega) (by omega)) ht.1 ⟨Nat.le_of_ble_eq_true rfl, Nat.le_of_ble_eq_true rfl, Nat.le_of_ble_eq_true rfl, Nat.le_of_ble_eq_true rfl⟩ rfl rfl (Nat.le_of_ble_eq_true rfl) (fun v9 w9 hR => ?_)
  obtain ⟨rfl, ht, hf9⟩ := hR
  obtain ⟨ha, hr, hb, hn0, hn30, hC⟩ := id ht
  simp only [Option.toList_some, Option.toList_none, List.cons_append, List.nil_append]
  rw [Int.sub_zero] at ht
  have hS := hS.put hp0u hp3u ht hf9
  have hf0 := hf0.tr (hf9.mono (kP_t hp0u hp3u))
  refine x_aload_n Z dX2_copy_24 rfl rfl ?_
  refine x_aload Z dX2_copy_25 rfl ?_
  refine x_callV (ci := 2) (C := RX1) (T := TX1) (N := 3) Z okX1_size q217 q218 q219 rfl dX2_copy_27 (c_X1_size h0 htr ht) ht.1 ⟨Nat.le_of_ble_eq_true rfl, Nat.le_of_ble_eq_true rfl, Nat.le_of_ble_eq_true rfl, Nat.le_of_ble_eq_true rfl⟩ rfl rfl (Nat.le_of_ble_eq_true rfl) (fun v9 w9 hR => ?_)
  obtain ⟨rfl, e9⟩ := hR
  refine x_ew e9 ?_
  simp only [Option.toList_some, Option.toList_none, List.cons_append, List.nil_append]
  refine x_callV (ci := 3) (C := RX2) (T := TX2) (N := 4) Z okX2_acted q351 q353 q6 rfl dX2_copy_30 (c_X2_acted h0 htr hS) hS.1 ⟨Nat.le_of_ble_eq_true rfl, Nat.le_of_ble_eq_true rfl, Nat.le_of_ble_eq_true rfl, Nat.le_of_ble_eq_true rfl⟩ rfl rfl (Nat.le_of_ble_eq_true rfl) (fun v9 w9 hR => ?_)
  obtain ⟨rfl, hS, hf9⟩ := hR
  have hf0 := hf0.tr hf9
  simp only [Option.toList_some, Option.toList_none, List.cons_append, List.nil_append]
  exact x_iret Z E (⟨⟨_, rfl, ⟨_, hS, aDo.mk rfl rfl bcm_eq0, hf0⟩⟩, by omega⟩) dX2_copy_33 (Nat.le_of_ble_eq_true rfl) (Nat.le_of_ble_eq_true rfl)
abbrev rmc_X2_join : Room := { frames := 7, cells := 2, slots := 12, locals := 121 }
set_option maxRecDepth 100000 in
theorem c_X2_join {l : Launch} {s0 : State} {G : gK} {w : wd} (h0 : gS0 s0) (htr : l.stackTraces = false) {K : kA} {M : kM} {t : Int} {u : Int} (hS : kS G w K M) (ht : inr t) (hu : inr u) : gM l s0 G yX2_join [Cond.code yX2_join cX2_join 5 (some .int)] rmc_X2_join [rv K.1, iv t, iv u] w (fun v w' => (∃ z : Int, v = some (iv z) ∧ kAct G w K M (acJoin M.1 M.2.1 t u) z w') ∧ (0 ≤ t ∧ t < 3) ∧ 0 ≤ u ∧ u < 3) (fun X w' => X = "java/lang/IndexOutOfBoundsException" ∧ w' = w ∧ ¬ ((0 ≤ t ∧ t < 3) ∧ 0 ≤ u ∧ u < 3)) := by
  refine g_of h0 htr (by decide +kernel) (Nat.le_of_ble_eq_true rfl) ?_
  intro b Z0 E
  have Z : gAm b l s0 G cX2_join RX2 5 rmc_X2_join := Z0
  refine x_el (L' := [(0, rv K.1), (1, iv t), (2, iv u)]) rfl ?_
  obtain ⟨hk1, ⟨f0, hk2, hk3⟩, hk4, hk5⟩ := id hS
  have hf0 : fr (kP K) w w := fr.rf
  refine x_aload_n Z dX2_join_0 rfl rfl ?_
  refine x_iload_n Z dX2_join_1 rfl rfl ?_
  refine x_callVx (ci := 3) (C := RX2) (T := TX2) (N := 4) Z okX2_textAt q313 q315 q3 rfl dX2_join_2 (c_X2_textAt h0 htr hS (by assumption)) hS.1 ⟨Nat.le_of_ble_eq_true rfl, Nat.le_of_ble_eq_true rfl, Nat.le_of_ble_eq_true rfl, Nat.le_of_ble_eq_true rfl⟩ rfl rfl (Nat.le_of_ble_eq_true rfl) (fun X w9 hX => x_out Z E (⟨hX.1, hX.2.1, fun h => hX.2.2 (by omega)⟩) (Nat.le_of_ble_eq_true rfl) (Nat.le_of_ble_eq_true rfl)) (fun v9 w9 hR => ?_)
  obtain ⟨⟨rfl, e9⟩, hp0t, hp3t⟩ := hR
  refine x_ew e9 ?_
  simp only [Option.toList_some, Option.toList_none, List.cons_append, List.nil_append]
  obtain ⟨B, ht⟩ := hS.2.2.1 t hp0t hp3t
  obtain ⟨ha, hr, hb, hn0, hn30, hC⟩ := id ht
  have hm0 := hn0
  have hm30 := hn30
  have hmC := hC
  refine x_astore_n (L' := [(3, _), (0, _), (1, _), (2, _)]) Z dX2_join_5 rfl (Nat.le_of_ble_eq_true rfl) rfl ?_
  refine x_aload_n Z dX2_join_6 rfl rfl ?_
  refine x_iload_n Z dX2_join_7 rfl rfl ?_
  refine x_callVx (ci := 3) (C := RX2) (T := TX2) (N := 4) Z okX2_textAt q313 q315 q3 rfl dX2_join_8 (c_X2_textAt h0 htr hS (by assumption)) hS.1 ⟨Nat.le_of_ble_eq_true rfl, Nat.le_of_ble_eq_true rfl, Nat.le_of_ble_eq_true rfl, Nat.le_of_ble_eq_true rfl⟩ rfl rfl (Nat.le_of_ble_eq_true rfl) (fun X w9 hX => x_out Z E (⟨hX.1, hX.2.1, fun h => hX.2.2 (by omega)⟩) (Nat.le_of_ble_eq_true rfl) (Nat.le_of_ble_eq_true rfl)) (fun v9 w9 hR => ?_)
  obtain ⟨⟨rfl, e9⟩, hp0u, hp3u⟩ := hR
  refine x_ew e9 ?_
  simp only [Option.toList_some, Option.toList_none, List.cons_append, List.nil_append]
  obtain ⟨B2, ht2⟩ := hS.2.2.1 u hp0u hp3u
  refine x_astore (L' := [(4, _), (3, _), (0, _), (1, _), (2, _)]) Z dX2_join_11 (Nat.le_of_ble_eq_true rfl) rfl ?_
  obtain ⟨-, -, -, h2n0, h2n30, -⟩ := id ht2
  refine x_aload_n Z dX2_join_13 rfl rfl ?_
  refine x_callV (ci := 2) (C := RX1) (T := TX1) (N := 3) Z okX1_size q217 q218 q219 rfl dX2_join_14 (c_X1_size h0 htr ht) ht.1 ⟨Nat.le_of_ble_eq_true rfl, Nat.le_of_ble_eq_true rfl, Nat.le_of_ble_eq_true rfl, Nat.le_of_ble_eq_true rfl⟩ rfl rfl (Nat.le_of_ble_eq_true rfl) (fun v9 w9 hR => ?_)
  obtain ⟨rfl, e9⟩ := hR
  refine x_ew e9 ?_
  simp only [Option.toList_some, Option.toList_none, List.cons_append, List.nil_append]
  refine x_aload Z dX2_join_17 rfl ?_
  refine x_callV (ci := 2) (C := RX1) (T := TX1) (N := 3) Z okX1_size q217 q218 q219 rfl dX2_join_19 (c_X1_size h0 htr ht2) ht2.1 ⟨Nat.le_of_ble_eq_true rfl, Nat.le_of_ble_eq_true rfl, Nat.le_of_ble_eq_true rfl, Nat.le_of_ble_eq_true rfl⟩ rfl rfl (Nat.le_of_ble_eq_true rfl) (fun v9 w9 hR => ?_)
  obtain ⟨rfl, e9⟩ := hR
  refine x_ew e9 ?_
  simp only [Option.toList_some, Option.toList_none, List.cons_append, List.nil_append]
  refine x_iadd Z dX2_join_22 ?_
  refine x_bipush Z dX2_join_23 (by decide +kernel) ?_
  refine x_icmp_le Z 33 dX2_join_25 (by decide) ⟨by omega, by omega⟩ ⟨by omega, by omega⟩ (fun c25 => ?_) (fun c25 => ?_)
  ·
    refine x_aload_n Z dX2_join_33 rfl rfl ?_
    refine x_aload Z dX2_join_34 rfl ?_
    refine x_callV (ci := 2) (C := RX1) (T := TX1) (N := 3) Z okX1_append q414 q415 q416 rfl dX2_join_36 (c_X1_append h0 htr ht ht2 (hS.selfC hp0t hp3t hp0u hp3u) (by omega)) ht.1 ⟨Nat.le_of_ble_eq_true rfl, Nat.le_of_ble_eq_true rfl, Nat.le_of_ble_eq_true rfl, Nat.le_of_ble_eq_true rfl⟩ rfl rfl (Nat.le_of_ble_eq_true rfl) (fun v9 w9 hR => ?_)
    obtain ⟨rfl, ht, hf9⟩ := hR
    obtain ⟨ha, hr, hb, hn0, hn30, hC⟩ := id ht
    simp only [Option.toList_some, Option.toList_none, List.cons_append, List.nil_append]
    have hS := hS.put hp0t hp3t ht hf9
    have hf0 := hf0.tr (hf9.mono (kP_t hp0t hp3t))
    refine x_aload_n Z dX2_join_39 rfl rfl ?_
    refine x_aload_n Z dX2_join_40 rfl rfl ?_
    refine x_callV (ci := 2) (C := RX1) (T := TX1) (N := 3) Z okX1_size q217 q218 q219 rfl dX2_join_41 (c_X1_size h0 htr ht) ht.1 ⟨Nat.le_of_ble_eq_true rfl, Nat.le_of_ble_eq_true rfl, Nat.le_of_ble_eq_true rfl, Nat.le_of_ble_eq_true rfl⟩ rfl rfl (Nat.le_of_ble_eq_true rfl) (fun v9 w9 hR => ?_)
    obtain ⟨rfl, e9⟩ := hR
    refine x_ew e9 ?_
    simp only [Option.toList_some, Option.toList_none, List.cons_append, List.nil_append]
    refine x_callV (ci := 3) (C := RX2) (T := TX2) (N := 4) Z okX2_acted q351 q353 q6 rfl dX2_join_44 (c_X2_acted h0 htr hS) hS.1 ⟨Nat.le_of_ble_eq_true rfl, Nat.le_of_ble_eq_true rfl, Nat.le_of_ble_eq_true rfl, Nat.le_of_ble_eq_true rfl⟩ rfl rfl (Nat.le_of_ble_eq_true rfl) (fun v9 w9 hR => ?_)
    obtain ⟨rfl, hS, hf9⟩ := hR
    have hf0 := hf0.tr hf9
    simp only [Option.toList_some, Option.toList_none, List.cons_append, List.nil_append]
    exact x_iret Z E (⟨⟨_, rfl, ⟨_, hS, aDo.mk (by unfold acJoin; rw [if_neg (by omega)]) rfl tEq.rf, hf0⟩⟩, by omega⟩) dX2_join_47 (Nat.le_of_ble_eq_true rfl) (Nat.le_of_ble_eq_true rfl)
  ·
    refine x_aload_n Z dX2_join_28 rfl rfl ?_
    refine x_callV (ci := 3) (C := RX2) (T := TX2) (N := 4) Z okX2_refused q339 q341 q5 rfl dX2_join_29 (c_X2_refused h0 htr hS) hS.1 ⟨Nat.le_of_ble_eq_true rfl, Nat.le_of_ble_eq_true rfl, Nat.le_of_ble_eq_true rfl, Nat.le_of_ble_eq_true rfl⟩ rfl rfl (Nat.le_of_ble_eq_true rfl) (fun v9 w9 hR => ?_)
    obtain ⟨rfl, hS, hf9⟩ := hR
    have hf0 := hf0.tr hf9
    simp only [Option.toList_some, Option.toList_none, List.cons_append, List.nil_append]
    exact x_iret Z E (⟨⟨_, rfl, ⟨_, hS, aDo.no (t := t) (by unfold acJoin; rw [if_pos (by omega)]), hf0⟩⟩, by omega⟩) dX2_join_32 (Nat.le_of_ble_eq_true rfl) (Nat.le_of_ble_eq_true rfl)
abbrev rmc_X2_turn : Room := { frames := 7, cells := 1, slots := 6, locals := 121 }
set_option maxRecDepth 100000 in
theorem c_X2_turn {l : Launch} {s0 : State} {G : gK} {w : wd} (h0 : gS0 s0) (htr : l.stackTraces = false) {K : kA} {M : kM} {t : Int} (hS : kS G w K M) (ht : inr t) : gM l s0 G yX2_turn [Cond.code yX2_turn cX2_turn 2 (some .int)] rmc_X2_turn [rv K.1, iv t] w (fun v w' => (∃ z : Int, v = some (iv z) ∧ kAct G w K M (acTurn M.1 M.2.1 t) z w') ∧ 0 ≤ t ∧ t < 3) (fun X w' => X = "java/lang/IndexOutOfBoundsException" ∧ w' = w ∧ ¬ (0 ≤ t ∧ t < 3)) := by
  refine g_of h0 htr (by decide +kernel) (Nat.le_of_ble_eq_true rfl) ?_
  intro b Z0 E
  have Z : gAm b l s0 G cX2_turn RX2 2 rmc_X2_turn := Z0
  refine x_el (L' := [(0, rv K.1), (1, iv t)]) rfl ?_
  obtain ⟨hk1, ⟨f0, hk2, hk3⟩, hk4, hk5⟩ := id hS
  have hf0 : fr (kP K) w w := fr.rf
  refine x_aload_n Z dX2_turn_0 rfl rfl ?_
  refine x_aload_n Z dX2_turn_1 rfl rfl ?_
  refine x_iload_n Z dX2_turn_2 rfl rfl ?_
  refine x_callVx (ci := 3) (C := RX2) (T := TX2) (N := 4) Z okX2_textAt q313 q315 q3 rfl dX2_turn_3 (c_X2_textAt h0 htr hS (by assumption)) hS.1 ⟨Nat.le_of_ble_eq_true rfl, Nat.le_of_ble_eq_true rfl, Nat.le_of_ble_eq_true rfl, Nat.le_of_ble_eq_true rfl⟩ rfl rfl (Nat.le_of_ble_eq_true rfl) (fun X w9 hX => x_out Z E (⟨hX.1, hX.2.1, fun h => hX.2.2 (by omega)⟩) (Nat.le_of_ble_eq_true rfl) (Nat.le_of_ble_eq_true rfl)) (fun v9 w9 hR => ?_)
  obtain ⟨⟨rfl, e9⟩, hp0t, hp3t⟩ := hR
  refine x_ew e9 ?_
  simp only [Option.toList_some, Option.toList_none, List.cons_append, List.nil_append]
  obtain ⟨B, ht⟩ := hS.2.2.1 t hp0t hp3t
  obtain ⟨ha, hr, hb, hn0, hn30, hC⟩ := id ht
  have hm0 := hn0
  have hm30 := hn30
  have hmC := hC
  refine x_callV (ci := 2) (C := RX1) (T := TX1) (N := 3) Z okX1_reverse q425 q426 q427 rfl dX2_turn_6 (c_X1_reverse h0 htr ht) ht.1 ⟨Nat.le_of_ble_eq_true rfl, Nat.le_of_ble_eq_true rfl, Nat.le_of_ble_eq_true rfl, Nat.le_of_ble_eq_true rfl⟩ rfl rfl (Nat.le_of_ble_eq_true rfl) (fun v9 w9 hR => ?_)
  obtain ⟨q9, C, rfl, hq9, hC9, ht, hf9⟩ := hR
  obtain ⟨ha, hr, hb, hn0, hn30, hC⟩ := id ht
  simp only [Option.toList_some, Option.toList_none, List.cons_append, List.nil_append]
  have hS := hS.put hp0t hp3t ht hf9
  have hf0 := hf0.tr (hf9.mono (kP_t hp0t hp3t))
  refine x_ifb_eq Z 16 dX2_turn_9 (by decide) (fun c9 => ?_) (fun c9 => ?_)
  ·
    refine x_ib false Z dX2_turn_16 (by decide) ?_
    refine x_callV (ci := 3) (C := RX2) (T := TX2) (N := 4) Z okX2_acted q351 q353 q6 rfl dX2_turn_17 (c_X2_acted h0 htr hS) hS.1 ⟨Nat.le_of_ble_eq_true rfl, Nat.le_of_ble_eq_true rfl, Nat.le_of_ble_eq_true rfl, Nat.le_of_ble_eq_true rfl⟩ rfl rfl (Nat.le_of_ble_eq_true rfl) (fun v9 w9 hR => ?_)
    obtain ⟨rfl, hS, hf9⟩ := hR
    have hf0 := hf0.tr hf9
    simp only [Option.toList_some, Option.toList_none, List.cons_append, List.nil_append]
    have ht9 := trn_iff (C := M.2.1 t) hm0
    exact x_iret Z E (⟨⟨_, rfl, ⟨_, hS, aDo.mk (by unfold acTurn; first | (rw [if_pos (ht9.mpr (hq9.mp c9))]; rfl) | (rw [if_neg (fun h => by { have h8 := hq9.mpr (ht9.mp h); rw [c9] at h8; cases h8 })]; rfl)) rfl hC9, hf0⟩⟩, by omega⟩) dX2_turn_20 (Nat.le_of_ble_eq_true rfl) (Nat.le_of_ble_eq_true rfl)
  ·
    refine x_ib true Z dX2_turn_12 (by decide) ?_
    refine x_goto Z 17 dX2_turn_13 (by decide) ?_
    refine x_callV (ci := 3) (C := RX2) (T := TX2) (N := 4) Z okX2_acted q351 q353 q6 rfl dX2_turn_17 (c_X2_acted h0 htr hS) hS.1 ⟨Nat.le_of_ble_eq_true rfl, Nat.le_of_ble_eq_true rfl, Nat.le_of_ble_eq_true rfl, Nat.le_of_ble_eq_true rfl⟩ rfl rfl (Nat.le_of_ble_eq_true rfl) (fun v9 w9 hR => ?_)
    obtain ⟨rfl, hS, hf9⟩ := hR
    have hf0 := hf0.tr hf9
    simp only [Option.toList_some, Option.toList_none, List.cons_append, List.nil_append]
    have ht9 := trn_iff (C := M.2.1 t) hm0
    exact x_iret Z E (⟨⟨_, rfl, ⟨_, hS, aDo.mk (by unfold acTurn; first | (rw [if_pos (ht9.mpr (hq9.mp c9))]; rfl) | (rw [if_neg (fun h => by { have h8 := hq9.mpr (ht9.mp h); rw [c9] at h8; cases h8 })]; rfl)) rfl hC9, hf0⟩⟩, by omega⟩) dX2_turn_20 (Nat.le_of_ble_eq_true rfl) (Nat.le_of_ble_eq_true rfl)
abbrev rmc_X2_fill : Room := { frames := 7, cells := 3, slots := 18, locals := 121 }
set_option maxRecDepth 100000 in
theorem c_X2_fill {l : Launch} {s0 : State} {G : gK} {w : wd} (h0 : gS0 s0) (htr : l.stackTraces = false) {K : kA} {M : kM} {t : Int} {f : Int} {m : Int} (hS : kS G w K M) (ht : inr t) (hf : inr f) (hm : inr m) : gM l s0 G yX2_fill [Cond.code yX2_fill cX2_fill 7 (some .int)] rmc_X2_fill [rv K.1, iv t, iv f, iv m] w (fun v w' => (∃ z : Int, v = some (iv z) ∧ kAct G w K M (acFill M.1 t f m) z w') ∧ ((0 ≤ t ∧ t < 3) ∧ (0 ≤ f ∧ f < 256) ∧ 0 ≤ m ∧ m ≤ 30 ∧ f + m ≤ 256)) (fun X w' => ((X = "java/lang/IndexOutOfBoundsException" ∧ ¬ (0 ≤ t ∧ t < 3)) ∨ (X = "java/lang/IllegalArgumentException" ∧ (0 ≤ t ∧ t < 3) ∧ ¬ ((0 ≤ f ∧ f < 256) ∧ 0 ≤ m ∧ m ≤ 30 ∧ f + m ≤ 256))) ∧ w' = w) := by
  refine g_of h0 htr (by decide +kernel) (Nat.le_of_ble_eq_true rfl) ?_
  intro b Z0 E
  have Z : gAm b l s0 G cX2_fill RX2 7 rmc_X2_fill := Z0
  refine x_el (L' := [(0, rv K.1), (1, iv t), (2, iv f), (3, iv m)]) rfl ?_
  obtain ⟨hk1, ⟨f0, hk2, hk3⟩, hk4, hk5⟩ := id hS
  have hf0 : fr (kP K) w w := fr.rf
  refine x_aload_n Z dX2_fill_0 rfl rfl ?_
  refine x_iload_n Z dX2_fill_1 rfl rfl ?_
  refine x_callVx (ci := 3) (C := RX2) (T := TX2) (N := 4) Z okX2_textAt q313 q315 q3 rfl dX2_fill_2 (c_X2_textAt h0 htr hS (by assumption)) hS.1 ⟨Nat.le_of_ble_eq_true rfl, Nat.le_of_ble_eq_true rfl, Nat.le_of_ble_eq_true rfl, Nat.le_of_ble_eq_true rfl⟩ rfl rfl (Nat.le_of_ble_eq_true rfl) (fun X w9 hX => x_out Z E (⟨Or.inl ⟨hX.1, fun h => hX.2.2 (by omega)⟩, hX.2.1⟩) (Nat.le_of_ble_eq_true rfl) (Nat.le_of_ble_eq_true rfl)) (fun v9 w9 hR => ?_)
  obtain ⟨⟨rfl, e9⟩, hp0t, hp3t⟩ := hR
  refine x_ew e9 ?_
  simp only [Option.toList_some, Option.toList_none, List.cons_append, List.nil_append]
  obtain ⟨B, ht⟩ := hS.2.2.1 t hp0t hp3t
  obtain ⟨ha, hr, hb, hn0, hn30, hC⟩ := id ht
  have hm0 := hn0
  have hm30 := hn30
  have hmC := hC
  refine x_astore (L' := [(4, _), (0, _), (1, _), (2, _), (3, _)]) Z dX2_fill_5 (Nat.le_of_ble_eq_true rfl) rfl ?_
  refine x_iload_n Z dX2_fill_7 rfl rfl ?_
  refine x_callSx Z okX2_checkSign q332 q333 dX2_fill_8 (c_X2_checkSign h0 htr (by assumption)) ⟨Nat.le_of_ble_eq_true rfl, Nat.le_of_ble_eq_true rfl, Nat.le_of_ble_eq_true rfl, Nat.le_of_ble_eq_true rfl⟩ rfl rfl (Nat.le_of_ble_eq_true rfl) (fun X w9 hX => x_out Z E (⟨Or.inr ⟨hX.1, by omega, fun h => hX.2.2 (by omega)⟩, hX.2.1⟩) (Nat.le_of_ble_eq_true rfl) (Nat.le_of_ble_eq_true rfl)) (fun v9 w9 hR => ?_)
  obtain ⟨⟨rfl, e9⟩, hq0, hq9⟩ := hR
  refine x_ew e9 ?_
  simp only [Option.toList_some, Option.toList_none, List.cons_append, List.nil_append]
  refine x_iload_n Z dX2_fill_11 rfl rfl ?_
  refine x_if_lt Z 30 dX2_fill_12 (by decide) ⟨by omega, by omega⟩ (fun c12 => ?_) (fun c12 => ?_)
  ·
    exact x_thr Z E (cls := "java/lang/IllegalArgumentException") (ik := 71) (ic := 73) (by decide +kernel) wsIA dX2_fill_30 dX2_fill_33 dX2_fill_34 dX2_fill_37 (Nat.le_of_ble_eq_true rfl) (Nat.le_of_ble_eq_true rfl) (Nat.le_of_ble_eq_true rfl) (Nat.le_of_ble_eq_true rfl) ⟨Or.inr ⟨rfl, by omega, by omega⟩, rfl⟩
  ·
    refine x_iload_n Z dX2_fill_15 rfl rfl ?_
    refine x_bipush Z dX2_fill_16 (by decide +kernel) ?_
    refine x_icmp_gt Z 30 dX2_fill_18 (by decide) ⟨by omega, by omega⟩ ⟨by omega, by omega⟩ (fun c18 => ?_) (fun c18 => ?_)
    ·
      exact x_thr Z E (cls := "java/lang/IllegalArgumentException") (ik := 71) (ic := 73) (by decide +kernel) wsIA dX2_fill_30 dX2_fill_33 dX2_fill_34 dX2_fill_37 (Nat.le_of_ble_eq_true rfl) (Nat.le_of_ble_eq_true rfl) (Nat.le_of_ble_eq_true rfl) (Nat.le_of_ble_eq_true rfl) ⟨Or.inr ⟨rfl, by omega, by omega⟩, rfl⟩
    ·
      refine x_iload_n Z dX2_fill_21 rfl rfl ?_
      refine x_iload_n Z dX2_fill_22 rfl rfl ?_
      refine x_iadd Z dX2_fill_23 ?_
      refine x_sipush Z dX2_fill_24 (by decide +kernel) ?_
      refine x_icmp_le Z 38 dX2_fill_27 (by decide) ⟨by omega, by omega⟩ ⟨by omega, by omega⟩ (fun c27 => ?_) (fun c27 => ?_)
      ·
        refine x_aload Z dX2_fill_38 rfl ?_
        refine x_iconst Z dX2_fill_40 ?_
        refine x_callV (ci := 2) (C := RX1) (T := TX1) (N := 3) Z okX1_retain q385 q386 q387 rfl dX2_fill_41 (c_X1_retain h0 htr ht) ht.1 ⟨Nat.le_of_ble_eq_true rfl, Nat.le_of_ble_eq_true rfl, Nat.le_of_ble_eq_true rfl, Nat.le_of_ble_eq_true rfl⟩ rfl rfl (Nat.le_of_ble_eq_true rfl) (fun v9 w9 hR => ?_)
        obtain ⟨rfl, B, ht, hf9⟩ := hR
        obtain ⟨ha, hr, hb, hn0, hn30, hC⟩ := id ht
        simp only [Option.toList_some, Option.toList_none, List.cons_append, List.nil_append]
        have e0 := sft0 (P := inB 0) (n := M.1 t) (C := M.2.1 t) (fun j => inB0 j)
        have ht : tX G w9 (K.2.2.1 t) (K.2.2.2.1 t) (K.2.2.2.2 t) 0 (M.2.1 t) B := by { have h := ht; rw [e0] at h; exact h }
        have hS := hS.put hp0t hp3t ht hf9
        have hf0 := hf0.tr (hf9.mono (kP_t hp0t hp3t))
        refine x_istore (L' := [(5, _), (4, _), (0, _), (1, _), (2, _), (3, _)]) Z dX2_fill_44 (Nat.le_of_ble_eq_true rfl) rfl ?_
        refine x_iconst Z dX2_fill_46 ?_
        refine x_istore (L' := [(6, _), (5, _), (4, _), (0, _), (1, _), (2, _), (3, _)]) Z dX2_fill_47 (Nat.le_of_ble_eq_true rfl) rfl ?_
        have loop49 : ∀ (fu : Nat) (i : Int) (C B : Int → Int) (M1 : kM) (w1 : wd), m - i < (fu : Int) → (0 ≤ i ∧ i ≤ m ∧ (∀ j, 0 ≤ j → j < i → C j = f + j) ∧ tX G w1 (K.2.2.1 t) (K.2.2.2.1 t) (K.2.2.2.2 t) i C B ∧ kS G w1 K M1 ∧ kK M M1 t ∧ M1.1 t = i ∧ M1.2.1 t = C ∧ fr (kP K) w w1) → gX b s0 G (2) (12) 49 [(6, iv i), (5, iv (M.1 t - (sft (inB 0) (M.1 t) (M.2.1 t)).1)), (4, rv (K.2.2.1 t)), (0, rv K.1), (1, iv t), (2, iv f), (3, iv m)] [] (w1) := by
          intro fu; induction fu with
          | zero => intro i C B M1 w1 hm hv; exact absurd hm (by omega)
          | succ fu ih49 =>
            intro i C B M1 w1 hm hv
            obtain ⟨hi0, him, hCf, ht, hS, hkk, hk1n, hk1c, hf0⟩ := hv
            obtain ⟨ha, hr, hb, hn0, hn30, hC⟩ := id ht
            refine x_iload Z dX2_fill_49 rfl ?_
            refine x_iload_n Z dX2_fill_51 rfl rfl ?_
            refine x_icmp_ge Z 72 dX2_fill_52 (by decide) ⟨by omega, by omega⟩ ⟨by omega, by omega⟩ (fun c52 => ?_) (fun c52 => ?_)
            ·
              refine x_aload_n Z dX2_fill_72 rfl rfl ?_
              refine x_iload Z dX2_fill_73 rfl ?_
              refine x_callV (ci := 3) (C := RX2) (T := TX2) (N := 4) Z okX2_acted q351 q353 q6 rfl dX2_fill_75 (c_X2_acted h0 htr hS) hS.1 ⟨Nat.le_of_ble_eq_true rfl, Nat.le_of_ble_eq_true rfl, Nat.le_of_ble_eq_true rfl, Nat.le_of_ble_eq_true rfl⟩ rfl rfl (Nat.le_of_ble_eq_true rfl) (fun v9 w9 hR => ?_)
              obtain ⟨rfl, hS, hf9⟩ := hR
              have hf0 := hf0.tr hf9
              simp only [Option.toList_some, Option.toList_none, List.cons_append, List.nil_append]
              have ei : i = m := by omega
              exact x_iret Z E (⟨⟨_, rfl, ⟨_, hS, aDo.mk2 (n' := m) (D := fun j => f + j) (by rw [e0]; exact congrArg (fun z => ((z, t, m, (fun j => f + j), (1 : Int), (0 : Int)) : oT)) (Int.sub_zero (M.1 t)).symm) hkk (hk1n.trans ei) (by rw [hk1c]; exact fun j j0 j1 => hCf j j0 (by omega)), hf0⟩⟩, by omega⟩) dX2_fill_78 (Nat.le_of_ble_eq_true rfl) (Nat.le_of_ble_eq_true rfl)
            ·
              refine x_aload Z dX2_fill_55 rfl ?_
              refine x_iload Z dX2_fill_57 rfl ?_
              refine x_iload_n Z dX2_fill_59 rfl rfl ?_
              refine x_iload Z dX2_fill_60 rfl ?_
              refine x_iadd Z dX2_fill_62 ?_
              refine x_callV (ci := 2) (C := RX1) (T := TX1) (N := 3) Z okX1_insertSign q343 q344 q345 rfl dX2_fill_63 (c_X1_insertSign h0 htr ht (by omega) (by omega) (by omega) (by omega) (by omega)) ht.1 ⟨Nat.le_of_ble_eq_true rfl, Nat.le_of_ble_eq_true rfl, Nat.le_of_ble_eq_true rfl, Nat.le_of_ble_eq_true rfl⟩ rfl rfl (Nat.le_of_ble_eq_true rfl) (fun v9 w9 hR => ?_)
              obtain ⟨rfl, ht, hf9⟩ := hR
              obtain ⟨ha, hr, hb, hn0, hn30, hC⟩ := id ht
              simp only [Option.toList_some, Option.toList_none, List.cons_append, List.nil_append]
              have hS := hS.put hp0t hp3t ht hf9
              have hf0 := hf0.tr (hf9.mono (kP_t hp0t hp3t))
              refine x_iinc (L' := [(6, _), (5, _), (4, _), (0, _), (1, _), (2, _), (3, _)]) Z dX2_fill_66 rfl (Nat.le_of_ble_eq_true rfl) rfl ?_
              refine x_goto Z 49 dX2_fill_69 (by decide) ?_
              exact ih49 (i + 1) _ _ _ _ (by omega) ⟨by omega, by omega, fun j j0 j1 => (by { unfold tins uF shf; by_cases e : j = i; rw [if_pos e, e]; rw [if_neg e, if_neg (by omega)]; exact hCf j j0 (by omega) }), ht, hS, hkk.put, if_pos rfl, if_pos rfl, hf0⟩
        exact loop49 40 0 _ _ _ _ (by omega) ⟨by omega, by omega, fun j j0 j1 => absurd j1 (by omega), ht, hS, kK.rf.put, if_pos rfl, if_pos rfl, hf0⟩
      ·
        exact x_thr Z E (cls := "java/lang/IllegalArgumentException") (ik := 71) (ic := 73) (by decide +kernel) wsIA dX2_fill_30 dX2_fill_33 dX2_fill_34 dX2_fill_37 (Nat.le_of_ble_eq_true rfl) (Nat.le_of_ble_eq_true rfl) (Nat.le_of_ble_eq_true rfl) (Nat.le_of_ble_eq_true rfl) ⟨Or.inr ⟨rfl, by omega, by omega⟩, rfl⟩
abbrev rmc_X2_cut : Room := { frames := 7, cells := 2, slots := 12, locals := 121 }
set_option maxRecDepth 100000 in
theorem c_X2_cut {l : Launch} {s0 : State} {G : gK} {w : wd} (h0 : gS0 s0) (htr : l.stackTraces = false) {K : kA} {M : kM} {t : Int} {f : Int} {g : Int} (hS : kS G w K M) (ht : inr t) (hf : inr f) (hg : inr g) : gM l s0 G yX2_cut [Cond.code yX2_cut cX2_cut 5 (some .int)] rmc_X2_cut [rv K.1, iv t, iv f, iv g] w (fun v w' => (∃ z : Int, v = some (iv z) ∧ kAct G w K M (acCut M.2.1 t f g) z w') ∧ (0 ≤ t ∧ t < 3) ∧ 0 ≤ f ∧ f ≤ g ∧ g ≤ M.1 t) (fun X w' => X = "java/lang/IndexOutOfBoundsException" ∧ w' = w ∧ ¬ ((0 ≤ t ∧ t < 3) ∧ 0 ≤ f ∧ f ≤ g ∧ g ≤ M.1 t)) := by
  refine g_of h0 htr (by decide +kernel) (Nat.le_of_ble_eq_true rfl) ?_
  intro b Z0 E
  have Z : gAm b l s0 G cX2_cut RX2 5 rmc_X2_cut := Z0
  refine x_el (L' := [(0, rv K.1), (1, iv t), (2, iv f), (3, iv g)]) rfl ?_
  obtain ⟨hk1, ⟨f0, hk2, hk3⟩, hk4, hk5⟩ := id hS
  have hf0 : fr (kP K) w w := fr.rf
  refine x_aload_n Z dX2_cut_0 rfl rfl ?_
  refine x_iload_n Z dX2_cut_1 rfl rfl ?_
  refine x_callVx (ci := 3) (C := RX2) (T := TX2) (N := 4) Z okX2_textAt q313 q315 q3 rfl dX2_cut_2 (c_X2_textAt h0 htr hS (by assumption)) hS.1 ⟨Nat.le_of_ble_eq_true rfl, Nat.le_of_ble_eq_true rfl, Nat.le_of_ble_eq_true rfl, Nat.le_of_ble_eq_true rfl⟩ rfl rfl (Nat.le_of_ble_eq_true rfl) (fun X w9 hX => x_out Z E (⟨hX.1, hX.2.1, fun h => hX.2.2 (by omega)⟩) (Nat.le_of_ble_eq_true rfl) (Nat.le_of_ble_eq_true rfl)) (fun v9 w9 hR => ?_)
  obtain ⟨⟨rfl, e9⟩, hp0t, hp3t⟩ := hR
  refine x_ew e9 ?_
  simp only [Option.toList_some, Option.toList_none, List.cons_append, List.nil_append]
  obtain ⟨B, ht⟩ := hS.2.2.1 t hp0t hp3t
  obtain ⟨ha, hr, hb, hn0, hn30, hC⟩ := id ht
  have hm0 := hn0
  have hm30 := hn30
  have hmC := hC
  refine x_astore (L' := [(4, _), (0, _), (1, _), (2, _), (3, _)]) Z dX2_cut_5 (Nat.le_of_ble_eq_true rfl) rfl ?_
  refine x_iload_n Z dX2_cut_7 rfl rfl ?_
  refine x_if_lt Z 25 dX2_cut_8 (by decide) ⟨by omega, by omega⟩ (fun c8 => ?_) (fun c8 => ?_)
  ·
    exact x_thr Z E (cls := "java/lang/IndexOutOfBoundsException") (ik := 47) (ic := 49) (by decide +kernel) wsIO dX2_cut_25 dX2_cut_28 dX2_cut_29 dX2_cut_32 (Nat.le_of_ble_eq_true rfl) (Nat.le_of_ble_eq_true rfl) (Nat.le_of_ble_eq_true rfl) (Nat.le_of_ble_eq_true rfl) ⟨rfl, rfl, by omega⟩
  ·
    refine x_iload_n Z dX2_cut_11 rfl rfl ?_
    refine x_iload_n Z dX2_cut_12 rfl rfl ?_
    refine x_icmp_gt Z 25 dX2_cut_13 (by decide) ⟨by omega, by omega⟩ ⟨by omega, by omega⟩ (fun c13 => ?_) (fun c13 => ?_)
    ·
      exact x_thr Z E (cls := "java/lang/IndexOutOfBoundsException") (ik := 47) (ic := 49) (by decide +kernel) wsIO dX2_cut_25 dX2_cut_28 dX2_cut_29 dX2_cut_32 (Nat.le_of_ble_eq_true rfl) (Nat.le_of_ble_eq_true rfl) (Nat.le_of_ble_eq_true rfl) (Nat.le_of_ble_eq_true rfl) ⟨rfl, rfl, by omega⟩
    ·
      refine x_iload_n Z dX2_cut_16 rfl rfl ?_
      refine x_aload Z dX2_cut_17 rfl ?_
      refine x_callV (ci := 2) (C := RX1) (T := TX1) (N := 3) Z okX1_size q217 q218 q219 rfl dX2_cut_19 (c_X1_size h0 htr ht) ht.1 ⟨Nat.le_of_ble_eq_true rfl, Nat.le_of_ble_eq_true rfl, Nat.le_of_ble_eq_true rfl, Nat.le_of_ble_eq_true rfl⟩ rfl rfl (Nat.le_of_ble_eq_true rfl) (fun v9 w9 hR => ?_)
      obtain ⟨rfl, e9⟩ := hR
      refine x_ew e9 ?_
      simp only [Option.toList_some, Option.toList_none, List.cons_append, List.nil_append]
      refine x_icmp_le Z 33 dX2_cut_22 (by decide) ⟨by omega, by omega⟩ ⟨by omega, by omega⟩ (fun c22 => ?_) (fun c22 => ?_)
      ·
        refine x_aload Z dX2_cut_33 rfl ?_
        refine x_aload Z dX2_cut_35 rfl ?_
        refine x_iload_n Z dX2_cut_37 rfl rfl ?_
        refine x_iload_n Z dX2_cut_38 rfl rfl ?_
        refine x_callV (ci := 2) (C := RX1) (T := TX1) (N := 3) Z okX1_become q403 q404 q405 rfl dX2_cut_39 (c_X1_become h0 htr ht ht (hS.selfC hp0t hp3t hp0t hp3t) (by omega) (by omega) (by omega)) ht.1 ⟨Nat.le_of_ble_eq_true rfl, Nat.le_of_ble_eq_true rfl, Nat.le_of_ble_eq_true rfl, Nat.le_of_ble_eq_true rfl⟩ rfl rfl (Nat.le_of_ble_eq_true rfl) (fun v9 w9 hR => ?_)
        obtain ⟨rfl, ht, hf9⟩ := hR
        obtain ⟨ha, hr, hb, hn0, hn30, hC⟩ := id ht
        simp only [Option.toList_some, Option.toList_none, List.cons_append, List.nil_append]
        have hS := hS.put hp0t hp3t ht hf9
        have hf0 := hf0.tr (hf9.mono (kP_t hp0t hp3t))
        refine x_aload_n Z dX2_cut_42 rfl rfl ?_
        refine x_aload Z dX2_cut_43 rfl ?_
        refine x_callV (ci := 2) (C := RX1) (T := TX1) (N := 3) Z okX1_size q217 q218 q219 rfl dX2_cut_45 (c_X1_size h0 htr ht) ht.1 ⟨Nat.le_of_ble_eq_true rfl, Nat.le_of_ble_eq_true rfl, Nat.le_of_ble_eq_true rfl, Nat.le_of_ble_eq_true rfl⟩ rfl rfl (Nat.le_of_ble_eq_true rfl) (fun v9 w9 hR => ?_)
        obtain ⟨rfl, e9⟩ := hR
        refine x_ew e9 ?_
        simp only [Option.toList_some, Option.toList_none, List.cons_append, List.nil_append]
        refine x_callV (ci := 3) (C := RX2) (T := TX2) (N := 4) Z okX2_acted q351 q353 q6 rfl dX2_cut_48 (c_X2_acted h0 htr hS) hS.1 ⟨Nat.le_of_ble_eq_true rfl, Nat.le_of_ble_eq_true rfl, Nat.le_of_ble_eq_true rfl, Nat.le_of_ble_eq_true rfl⟩ rfl rfl (Nat.le_of_ble_eq_true rfl) (fun v9 w9 hR => ?_)
        obtain ⟨rfl, hS, hf9⟩ := hR
        have hf0 := hf0.tr hf9
        simp only [Option.toList_some, Option.toList_none, List.cons_append, List.nil_append]
        exact x_iret Z E (⟨⟨_, rfl, ⟨_, hS, aDo.mk rfl rfl bcm_eq, hf0⟩⟩, by omega⟩) dX2_cut_51 (Nat.le_of_ble_eq_true rfl) (Nat.le_of_ble_eq_true rfl)
      ·
        exact x_thr Z E (cls := "java/lang/IndexOutOfBoundsException") (ik := 47) (ic := 49) (by decide +kernel) wsIO dX2_cut_25 dX2_cut_28 dX2_cut_29 dX2_cut_32 (Nat.le_of_ble_eq_true rfl) (Nat.le_of_ble_eq_true rfl) (Nat.le_of_ble_eq_true rfl) (Nat.le_of_ble_eq_true rfl) ⟨rfl, rfl, by omega⟩
abbrev rmc_X2_sifted : Room := { frames := 2, cells := 0, slots := 0, locals := 44 }
set_option maxRecDepth 100000 in
theorem c_X2_sifted {l : Launch} {s0 : State} {G : gK} {w : wd} (h0 : gS0 s0) (htr : l.stackTraces = false) {a r bb : Nat} {n : Int} {C B : Int → Int} {m : Int} {q : Bool} (ht : tX G w a r bb n C B) : gM l s0 G yX2_sifted [Cond.code yX2_sifted cX2_sifted 3 (some .int)] rmc_X2_sifted [rv a, iv m, iv (b2 q)] w (fun v w' => v = some (iv (n - (sft (inB (cond q m (bAnd (bShl 1 n - 1) (bXor m (-1))))) n C).1)) ∧ ∃ B', tX G w' a r bb (sft (inB (cond q m (bAnd (bShl 1 n - 1) (bXor m (-1))))) n C).1 (sft (inB (cond q m (bAnd (bShl 1 n - 1) (bXor m (-1))))) n C).2 B' ∧ fr (tP a r bb) w w') (noX) := by
  refine g_of h0 htr (by decide +kernel) (Nat.le_of_ble_eq_true rfl) ?_
  intro b Z0 E
  have Z : gAm b l s0 G cX2_sifted RX2 3 rmc_X2_sifted := Z0
  refine x_el (L' := [(0, rv a), (1, iv m), (2, iv (b2 q))]) rfl ?_
  obtain ⟨ha, hr, hb, hn0, hn30, hC⟩ := id ht
  refine x_aload_n Z dX2_sifted_0 rfl rfl ?_
  refine x_iload_n Z dX2_sifted_1 rfl rfl ?_
  refine x_ifb_eq Z 9 dX2_sifted_2 (by decide) (fun c2 => ?_) (fun c2 => ?_)
  ·
    refine x_aload_n Z dX2_sifted_9 rfl rfl ?_
    refine x_callV (ci := 2) (C := RX1) (T := TX1) (N := 3) Z okX1_allPlaces q381 q382 q383 rfl dX2_sifted_10 (c_X1_allPlaces h0 htr ht) ht.1 ⟨Nat.le_of_ble_eq_true rfl, Nat.le_of_ble_eq_true rfl, Nat.le_of_ble_eq_true rfl, Nat.le_of_ble_eq_true rfl⟩ rfl rfl (Nat.le_of_ble_eq_true rfl) (fun v9 w9 hR => ?_)
    obtain ⟨rfl, e9⟩ := hR
    refine x_ew e9 ?_
    simp only [Option.toList_some, Option.toList_none, List.cons_append, List.nil_append]
    refine x_iload_n Z dX2_sifted_13 rfl rfl ?_
    refine x_iconst Z dX2_sifted_14 ?_
    refine x_ixor Z dX2_sifted_15 ?_
    refine x_iand Z dX2_sifted_16 ?_
    refine x_callV (ci := 2) (C := RX1) (T := TX1) (N := 3) Z okX1_retain q385 q386 q387 rfl dX2_sifted_17 (c_X1_retain h0 htr ht) ht.1 ⟨Nat.le_of_ble_eq_true rfl, Nat.le_of_ble_eq_true rfl, Nat.le_of_ble_eq_true rfl, Nat.le_of_ble_eq_true rfl⟩ rfl rfl (Nat.le_of_ble_eq_true rfl) (fun v9 w9 hR => ?_)
    obtain ⟨rfl, B, ht, hf9⟩ := hR
    obtain ⟨ha, hr, hb, hn0, hn30, hC⟩ := id ht
    simp only [Option.toList_some, Option.toList_none, List.cons_append, List.nil_append]
    exact x_iret Z E (by subst c2; exact ⟨rfl, B, ht, hf9⟩) dX2_sifted_20 (Nat.le_of_ble_eq_true rfl) (Nat.le_of_ble_eq_true rfl)
  ·
    refine x_iload_n Z dX2_sifted_5 rfl rfl ?_
    refine x_goto Z 17 dX2_sifted_6 (by decide) ?_
    refine x_callV (ci := 2) (C := RX1) (T := TX1) (N := 3) Z okX1_retain q385 q386 q387 rfl dX2_sifted_17 (c_X1_retain h0 htr ht) ht.1 ⟨Nat.le_of_ble_eq_true rfl, Nat.le_of_ble_eq_true rfl, Nat.le_of_ble_eq_true rfl, Nat.le_of_ble_eq_true rfl⟩ rfl rfl (Nat.le_of_ble_eq_true rfl) (fun v9 w9 hR => ?_)
    obtain ⟨rfl, B, ht, hf9⟩ := hR
    obtain ⟨ha, hr, hb, hn0, hn30, hC⟩ := id ht
    simp only [Option.toList_some, Option.toList_none, List.cons_append, List.nil_append]
    exact x_iret Z E (by subst c2; exact ⟨rfl, B, ht, hf9⟩) dX2_sifted_20 (Nat.le_of_ble_eq_true rfl) (Nat.le_of_ble_eq_true rfl)
abbrev rmc_X2_keep : Room := { frames := 7, cells := 2, slots := 12, locals := 121 }
set_option maxRecDepth 100000 in
theorem c_X2_keep {l : Launch} {s0 : State} {G : gK} {w : wd} (h0 : gS0 s0) (htr : l.stackTraces = false) {K : kA} {M : kM} {t : Int} {q : Int} {o : Bool} (hS : kS G w K M) (ht : inr t) (hq : inr q) : gM l s0 G yX2_keep [Cond.code yX2_keep cX2_keep 5 (some .int)] rmc_X2_keep [rv K.1, iv t, iv q, iv (b2 o)] w (fun v w' => (∃ z : Int, v = some (iv z) ∧ kAct G w K M (acSift M.1 M.2.1 t (fun j => so (M.2.1 t j) q == o)) z w') ∧ ((0 ≤ t ∧ t < 3) ∧ 0 ≤ q ∧ q < 14)) (fun X w' => ((X = "java/lang/IndexOutOfBoundsException" ∧ ¬ (0 ≤ t ∧ t < 3)) ∨ (X = "java/lang/IllegalArgumentException" ∧ (0 ≤ t ∧ t < 3) ∧ ¬ (0 ≤ q ∧ q < 14))) ∧ w' = w) := by
  refine g_of h0 htr (by decide +kernel) (Nat.le_of_ble_eq_true rfl) ?_
  intro b Z0 E
  have Z : gAm b l s0 G cX2_keep RX2 5 rmc_X2_keep := Z0
  refine x_el (L' := [(0, rv K.1), (1, iv t), (2, iv q), (3, iv (b2 o))]) rfl ?_
  obtain ⟨hk1, ⟨f0, hk2, hk3⟩, hk4, hk5⟩ := id hS
  have hf0 : fr (kP K) w w := fr.rf
  refine x_aload_n Z dX2_keep_0 rfl rfl ?_
  refine x_iload_n Z dX2_keep_1 rfl rfl ?_
  refine x_callVx (ci := 3) (C := RX2) (T := TX2) (N := 4) Z okX2_textAt q313 q315 q3 rfl dX2_keep_2 (c_X2_textAt h0 htr hS (by assumption)) hS.1 ⟨Nat.le_of_ble_eq_true rfl, Nat.le_of_ble_eq_true rfl, Nat.le_of_ble_eq_true rfl, Nat.le_of_ble_eq_true rfl⟩ rfl rfl (Nat.le_of_ble_eq_true rfl) (fun X w9 hX => x_out Z E (⟨Or.inl ⟨hX.1, fun h => hX.2.2 (by omega)⟩, hX.2.1⟩) (Nat.le_of_ble_eq_true rfl) (Nat.le_of_ble_eq_true rfl)) (fun v9 w9 hR => ?_)
  obtain ⟨⟨rfl, e9⟩, hp0t, hp3t⟩ := hR
  refine x_ew e9 ?_
  simp only [Option.toList_some, Option.toList_none, List.cons_append, List.nil_append]
  obtain ⟨B, ht⟩ := hS.2.2.1 t hp0t hp3t
  obtain ⟨ha, hr, hb, hn0, hn30, hC⟩ := id ht
  have hm0 := hn0
  have hm30 := hn30
  have hmC := hC
  refine x_astore (L' := [(4, _), (0, _), (1, _), (2, _), (3, _)]) Z dX2_keep_5 (Nat.le_of_ble_eq_true rfl) rfl ?_
  refine x_iload_n Z dX2_keep_7 rfl rfl ?_
  refine x_callSx Z okX2_checkQuestion q450 q451 dX2_keep_8 (c_X2_checkQuestion h0 htr (by assumption)) ⟨Nat.le_of_ble_eq_true rfl, Nat.le_of_ble_eq_true rfl, Nat.le_of_ble_eq_true rfl, Nat.le_of_ble_eq_true rfl⟩ rfl rfl (Nat.le_of_ble_eq_true rfl) (fun X w9 hX => x_out Z E (⟨Or.inr ⟨hX.1, by omega, fun h => hX.2.2 (by omega)⟩, hX.2.1⟩) (Nat.le_of_ble_eq_true rfl) (Nat.le_of_ble_eq_true rfl)) (fun v9 w9 hR => ?_)
  obtain ⟨⟨rfl, e9⟩, hq0, hq9⟩ := hR
  refine x_ew e9 ?_
  simp only [Option.toList_some, Option.toList_none, List.cons_append, List.nil_append]
  refine x_aload_n Z dX2_keep_11 rfl rfl ?_
  refine x_aload Z dX2_keep_12 rfl ?_
  refine x_aload Z dX2_keep_14 rfl ?_
  refine x_iload_n Z dX2_keep_16 rfl rfl ?_
  refine x_callV (ci := 2) (C := RX1) (T := TX1) (N := 3) Z okX1_placesOf q453 q206 q207 rfl dX2_keep_17 (c_X1_placesOf h0 htr ht (by omega) (by omega)) ht.1 ⟨Nat.le_of_ble_eq_true rfl, Nat.le_of_ble_eq_true rfl, Nat.le_of_ble_eq_true rfl, Nat.le_of_ble_eq_true rfl⟩ rfl rfl (Nat.le_of_ble_eq_true rfl) (fun v9 w9 hR => ?_)
  obtain ⟨rfl, e9⟩ := hR
  refine x_ew e9 ?_
  simp only [Option.toList_some, Option.toList_none, List.cons_append, List.nil_append]
  refine x_iload_n Z dX2_keep_20 rfl rfl ?_
  refine x_callS Z okX2_sifted q454 q455 dX2_keep_21 (c_X2_sifted h0 htr ht) ⟨Nat.le_of_ble_eq_true rfl, Nat.le_of_ble_eq_true rfl, Nat.le_of_ble_eq_true rfl, Nat.le_of_ble_eq_true rfl⟩ rfl rfl (Nat.le_of_ble_eq_true rfl) (fun v9 w9 hR => ?_)
  obtain ⟨rfl, B, ht, hf9⟩ := hR
  obtain ⟨ha, hr, hb, hn0, hn30, hC⟩ := id ht
  simp only [Option.toList_some, Option.toList_none, List.cons_append, List.nil_append]
  have hS := hS.put hp0t hp3t ht hf9
  have hf0 := hf0.tr (hf9.mono (kP_t hp0t hp3t))
  refine x_callV (ci := 3) (C := RX2) (T := TX2) (N := 4) Z okX2_acted q351 q353 q6 rfl dX2_keep_24 (c_X2_acted h0 htr hS) hS.1 ⟨Nat.le_of_ble_eq_true rfl, Nat.le_of_ble_eq_true rfl, Nat.le_of_ble_eq_true rfl, Nat.le_of_ble_eq_true rfl⟩ rfl rfl (Nat.le_of_ble_eq_true rfl) (fun v9 w9 hR => ?_)
  obtain ⟨rfl, hS, hf9⟩ := hR
  have hf0 := hf0.tr hf9
  simp only [Option.toList_some, Option.toList_none, List.cons_append, List.nil_append]
  exact x_iret Z E (⟨⟨_, rfl, ⟨_, hS, aDo.sift (sft_cg hm0 (fun j j0 jn => inB_keep hm0 hm30 j0 jn) tEq.rf), hf0⟩⟩, by omega⟩) dX2_keep_27 (Nat.le_of_ble_eq_true rfl) (Nat.le_of_ble_eq_true rfl)
abbrev rmc_X2_keepKind : Room := { frames := 7, cells := 2, slots := 12, locals := 121 }
set_option maxRecDepth 100000 in
theorem c_X2_keepKind {l : Launch} {s0 : State} {G : gK} {w : wd} (h0 : gS0 s0) (htr : l.stackTraces = false) {K : kA} {M : kM} {t : Int} {q : Int} {o : Bool} (hS : kS G w K M) (ht : inr t) (hq : inr q) : gM l s0 G yX2_keepKind [Cond.code yX2_keepKind cX2_keepKind 5 (some .int)] rmc_X2_keepKind [rv K.1, iv t, iv q, iv (b2 o)] w (fun v w' => (∃ z : Int, v = some (iv z) ∧ kAct G w K M (acSift M.1 M.2.1 t (fun j => decide (kin (M.2.1 t j) = q) == o)) z w') ∧ ((0 ≤ t ∧ t < 3) ∧ 0 ≤ q ∧ q < 31)) (fun X w' => ((X = "java/lang/IndexOutOfBoundsException" ∧ ¬ (0 ≤ t ∧ t < 3)) ∨ (X = "java/lang/IllegalArgumentException" ∧ (0 ≤ t ∧ t < 3) ∧ ¬ (0 ≤ q ∧ q < 31))) ∧ w' = w) := by
  refine g_of h0 htr (by decide +kernel) (Nat.le_of_ble_eq_true rfl) ?_
  intro b Z0 E
  have Z : gAm b l s0 G cX2_keepKind RX2 5 rmc_X2_keepKind := Z0
  refine x_el (L' := [(0, rv K.1), (1, iv t), (2, iv q), (3, iv (b2 o))]) rfl ?_
  obtain ⟨hk1, ⟨f0, hk2, hk3⟩, hk4, hk5⟩ := id hS
  have hf0 : fr (kP K) w w := fr.rf
  refine x_aload_n Z dX2_keepKind_0 rfl rfl ?_
  refine x_iload_n Z dX2_keepKind_1 rfl rfl ?_
  refine x_callVx (ci := 3) (C := RX2) (T := TX2) (N := 4) Z okX2_textAt q313 q315 q3 rfl dX2_keepKind_2 (c_X2_textAt h0 htr hS (by assumption)) hS.1 ⟨Nat.le_of_ble_eq_true rfl, Nat.le_of_ble_eq_true rfl, Nat.le_of_ble_eq_true rfl, Nat.le_of_ble_eq_true rfl⟩ rfl rfl (Nat.le_of_ble_eq_true rfl) (fun X w9 hX => x_out Z E (⟨Or.inl ⟨hX.1, fun h => hX.2.2 (by omega)⟩, hX.2.1⟩) (Nat.le_of_ble_eq_true rfl) (Nat.le_of_ble_eq_true rfl)) (fun v9 w9 hR => ?_)
  obtain ⟨⟨rfl, e9⟩, hp0t, hp3t⟩ := hR
  refine x_ew e9 ?_
  simp only [Option.toList_some, Option.toList_none, List.cons_append, List.nil_append]
  obtain ⟨B, ht⟩ := hS.2.2.1 t hp0t hp3t
  obtain ⟨ha, hr, hb, hn0, hn30, hC⟩ := id ht
  have hm0 := hn0
  have hm30 := hn30
  have hmC := hC
  refine x_astore (L' := [(4, _), (0, _), (1, _), (2, _), (3, _)]) Z dX2_keepKind_5 (Nat.le_of_ble_eq_true rfl) rfl ?_
  refine x_iload_n Z dX2_keepKind_7 rfl rfl ?_
  refine x_callSx Z okX2_checkKind q464 q465 dX2_keepKind_8 (c_X2_checkKind h0 htr (by assumption)) ⟨Nat.le_of_ble_eq_true rfl, Nat.le_of_ble_eq_true rfl, Nat.le_of_ble_eq_true rfl, Nat.le_of_ble_eq_true rfl⟩ rfl rfl (Nat.le_of_ble_eq_true rfl) (fun X w9 hX => x_out Z E (⟨Or.inr ⟨hX.1, by omega, fun h => hX.2.2 (by omega)⟩, hX.2.1⟩) (Nat.le_of_ble_eq_true rfl) (Nat.le_of_ble_eq_true rfl)) (fun v9 w9 hR => ?_)
  obtain ⟨⟨rfl, e9⟩, hq0, hq9⟩ := hR
  refine x_ew e9 ?_
  simp only [Option.toList_some, Option.toList_none, List.cons_append, List.nil_append]
  refine x_aload_n Z dX2_keepKind_11 rfl rfl ?_
  refine x_aload Z dX2_keepKind_12 rfl ?_
  refine x_aload Z dX2_keepKind_14 rfl ?_
  refine x_iload_n Z dX2_keepKind_16 rfl rfl ?_
  refine x_callV (ci := 2) (C := RX1) (T := TX1) (N := 3) Z okX1_placesOfKind q467 q468 q469 rfl dX2_keepKind_17 (c_X1_placesOfKind h0 htr ht (by omega) (by omega)) ht.1 ⟨Nat.le_of_ble_eq_true rfl, Nat.le_of_ble_eq_true rfl, Nat.le_of_ble_eq_true rfl, Nat.le_of_ble_eq_true rfl⟩ rfl rfl (Nat.le_of_ble_eq_true rfl) (fun v9 w9 hR => ?_)
  obtain ⟨rfl, e9⟩ := hR
  refine x_ew e9 ?_
  simp only [Option.toList_some, Option.toList_none, List.cons_append, List.nil_append]
  refine x_iload_n Z dX2_keepKind_20 rfl rfl ?_
  refine x_callS Z okX2_sifted q454 q455 dX2_keepKind_21 (c_X2_sifted h0 htr ht) ⟨Nat.le_of_ble_eq_true rfl, Nat.le_of_ble_eq_true rfl, Nat.le_of_ble_eq_true rfl, Nat.le_of_ble_eq_true rfl⟩ rfl rfl (Nat.le_of_ble_eq_true rfl) (fun v9 w9 hR => ?_)
  obtain ⟨rfl, B, ht, hf9⟩ := hR
  obtain ⟨ha, hr, hb, hn0, hn30, hC⟩ := id ht
  simp only [Option.toList_some, Option.toList_none, List.cons_append, List.nil_append]
  have hS := hS.put hp0t hp3t ht hf9
  have hf0 := hf0.tr (hf9.mono (kP_t hp0t hp3t))
  refine x_callV (ci := 3) (C := RX2) (T := TX2) (N := 4) Z okX2_acted q351 q353 q6 rfl dX2_keepKind_24 (c_X2_acted h0 htr hS) hS.1 ⟨Nat.le_of_ble_eq_true rfl, Nat.le_of_ble_eq_true rfl, Nat.le_of_ble_eq_true rfl, Nat.le_of_ble_eq_true rfl⟩ rfl rfl (Nat.le_of_ble_eq_true rfl) (fun v9 w9 hR => ?_)
  obtain ⟨rfl, hS, hf9⟩ := hR
  have hf0 := hf0.tr hf9
  simp only [Option.toList_some, Option.toList_none, List.cons_append, List.nil_append]
  exact x_iret Z E (⟨⟨_, rfl, ⟨_, hS, aDo.sift (sft_cg hm0 (fun j j0 jn => inB_keep hm0 hm30 j0 jn) tEq.rf), hf0⟩⟩, by omega⟩) dX2_keepKind_27 (Nat.le_of_ble_eq_true rfl) (Nat.le_of_ble_eq_true rfl)
abbrev rmc_X2_take : Room := { frames := 7, cells := 3, slots := 18, locals := 156 }
set_option maxRecDepth 100000 in
theorem c_X2_take {l : Launch} {s0 : State} {G : gK} {w : wd} (h0 : gS0 s0) (htr : l.stackTraces = false) {K : kA} {M : kM} {t : Int} {k1 : Int} {u : Int} (hS : kS G w K M) (ht : inr t) (hk1 : inr k1) (hu : inr u) : gM l s0 G yX2_take [Cond.code yX2_take cX2_take 7 (some .int)] rmc_X2_take [rv K.1, iv t, iv k1, iv u] w (fun v w' => (∃ z : Int, v = some (iv z) ∧ kAct G w K M (acTake M.1 M.2.1 t k1 u) z w') ∧ ((0 ≤ t ∧ t < 3) ∧ 0 ≤ u ∧ u < 3) ∧ 0 ≤ k1 ∧ 0 ≤ (pbg (M.1 t) (M.2.1 t) k1)) (fun X w' => X = "java/lang/IndexOutOfBoundsException" ∧ w' = w ∧ ¬ (((0 ≤ t ∧ t < 3) ∧ 0 ≤ u ∧ u < 3) ∧ 0 ≤ k1 ∧ 0 ≤ (pbg (M.1 t) (M.2.1 t) k1))) := by
  refine g_of h0 htr (by decide +kernel) (Nat.le_of_ble_eq_true rfl) ?_
  intro b Z0 E
  have Z : gAm b l s0 G cX2_take RX2 7 rmc_X2_take := Z0
  refine x_el (L' := [(0, rv K.1), (1, iv t), (2, iv k1), (3, iv u)]) rfl ?_
  obtain ⟨hk1, ⟨f0, hk2, hk3⟩, hk4, hk5⟩ := id hS
  have hf0 : fr (kP K) w w := fr.rf
  refine x_aload_n Z dX2_take_0 rfl rfl ?_
  refine x_iload_n Z dX2_take_1 rfl rfl ?_
  refine x_callVx (ci := 3) (C := RX2) (T := TX2) (N := 4) Z okX2_textAt q313 q315 q3 rfl dX2_take_2 (c_X2_textAt h0 htr hS (by assumption)) hS.1 ⟨Nat.le_of_ble_eq_true rfl, Nat.le_of_ble_eq_true rfl, Nat.le_of_ble_eq_true rfl, Nat.le_of_ble_eq_true rfl⟩ rfl rfl (Nat.le_of_ble_eq_true rfl) (fun X w9 hX => x_out Z E (⟨hX.1, hX.2.1, fun h => hX.2.2 (by omega)⟩) (Nat.le_of_ble_eq_true rfl) (Nat.le_of_ble_eq_true rfl)) (fun v9 w9 hR => ?_)
  obtain ⟨⟨rfl, e9⟩, hp0t, hp3t⟩ := hR
  refine x_ew e9 ?_
  simp only [Option.toList_some, Option.toList_none, List.cons_append, List.nil_append]
  obtain ⟨B2, ht2⟩ := hS.2.2.1 t hp0t hp3t
  refine x_astore (L' := [(4, _), (0, _), (1, _), (2, _), (3, _)]) Z dX2_take_5 (Nat.le_of_ble_eq_true rfl) rfl ?_
  refine x_aload_n Z dX2_take_7 rfl rfl ?_
  refine x_iload_n Z dX2_take_8 rfl rfl ?_
  refine x_callVx (ci := 3) (C := RX2) (T := TX2) (N := 4) Z okX2_textAt q313 q315 q3 rfl dX2_take_9 (c_X2_textAt h0 htr hS (by assumption)) hS.1 ⟨Nat.le_of_ble_eq_true rfl, Nat.le_of_ble_eq_true rfl, Nat.le_of_ble_eq_true rfl, Nat.le_of_ble_eq_true rfl⟩ rfl rfl (Nat.le_of_ble_eq_true rfl) (fun X w9 hX => x_out Z E (⟨hX.1, hX.2.1, fun h => hX.2.2 (by omega)⟩) (Nat.le_of_ble_eq_true rfl) (Nat.le_of_ble_eq_true rfl)) (fun v9 w9 hR => ?_)
  obtain ⟨⟨rfl, e9⟩, hp0u, hp3u⟩ := hR
  refine x_ew e9 ?_
  simp only [Option.toList_some, Option.toList_none, List.cons_append, List.nil_append]
  obtain ⟨B, ht⟩ := hS.2.2.1 u hp0u hp3u
  obtain ⟨ha, hr, hb, hn0, hn30, hC⟩ := id ht
  have hm0 := hn0
  have hm30 := hn30
  have hmC := hC
  refine x_astore (L' := [(5, _), (4, _), (0, _), (1, _), (2, _), (3, _)]) Z dX2_take_12 (Nat.le_of_ble_eq_true rfl) rfl ?_
  obtain ⟨-, -, -, h2n0, h2n30, hC2⟩ := id ht2
  refine x_aload Z dX2_take_14 rfl ?_
  refine x_iload_n Z dX2_take_16 rfl rfl ?_
  refine x_callSx Z okX2_beginOfPiece q478 q479 dX2_take_17 (c_X2_beginOfPiece h0 htr ht2 (by assumption)) ⟨Nat.le_of_ble_eq_true rfl, Nat.le_of_ble_eq_true rfl, Nat.le_of_ble_eq_true rfl, Nat.le_of_ble_eq_true rfl⟩ rfl rfl (Nat.le_of_ble_eq_true rfl) (fun X w9 hX => x_out Z E (⟨hX.1, hX.2.1, fun h => hX.2.2 (by omega)⟩) (Nat.le_of_ble_eq_true rfl) (Nat.le_of_ble_eq_true rfl)) (fun v9 w9 hR => ?_)
  obtain ⟨⟨rfl, e9⟩, hz1, hz0, hz9⟩ := hR
  refine x_ew e9 ?_
  simp only [Option.toList_some, Option.toList_none, List.cons_append, List.nil_append]
  refine x_istore (L' := [(6, _), (5, _), (4, _), (0, _), (1, _), (2, _), (3, _)]) Z dX2_take_20 (Nat.le_of_ble_eq_true rfl) rfl ?_
  have hlo := lon_in (n := M.1 t) (C := M.2.1 t) (p := (pbg (M.1 t) (M.2.1 t) k1)) (by omega)
  refine x_aload Z dX2_take_22 rfl ?_
  refine x_aload Z dX2_take_24 rfl ?_
  refine x_iload Z dX2_take_26 rfl ?_
  refine x_iload Z dX2_take_28 rfl ?_
  refine x_aload Z dX2_take_30 rfl ?_
  refine x_iload Z dX2_take_32 rfl ?_
  refine x_callV (ci := 2) (C := RX1) (T := TX1) (N := 3) Z okX1_longestAt q485 q122 q123 rfl dX2_take_34 (c_X1_longestAt h0 htr ht2 (by omega) (by omega)) ht2.1 ⟨Nat.le_of_ble_eq_true rfl, Nat.le_of_ble_eq_true rfl, Nat.le_of_ble_eq_true rfl, Nat.le_of_ble_eq_true rfl⟩ rfl rfl (Nat.le_of_ble_eq_true rfl) (fun v9 w9 hR => ?_)
  obtain ⟨rfl, e9⟩ := hR
  refine x_ew e9 ?_
  simp only [Option.toList_some, Option.toList_none, List.cons_append, List.nil_append]
  refine x_iadd Z dX2_take_37 ?_
  refine x_callV (ci := 2) (C := RX1) (T := TX1) (N := 3) Z okX1_become q403 q404 q405 rfl dX2_take_38 (c_X1_become h0 htr ht ht2 (hS.selfC hp0u hp3u hp0t hp3t) (by omega) (by omega) (by omega)) ht.1 ⟨Nat.le_of_ble_eq_true rfl, Nat.le_of_ble_eq_true rfl, Nat.le_of_ble_eq_true rfl, Nat.le_of_ble_eq_true rfl⟩ rfl rfl (Nat.le_of_ble_eq_true rfl) (fun v9 w9 hR => ?_)
  obtain ⟨rfl, ht, hf9⟩ := hR
  obtain ⟨ha, hr, hb, hn0, hn30, hC⟩ := id ht
  simp only [Option.toList_some, Option.toList_none, List.cons_append, List.nil_append]
  rw [show (pbg (M.1 t) (M.2.1 t) k1) + (lon (M.1 t) (M.2.1 t) (pbg (M.1 t) (M.2.1 t) k1)) - (pbg (M.1 t) (M.2.1 t) k1) = (lon (M.1 t) (M.2.1 t) (pbg (M.1 t) (M.2.1 t) k1)) by omega] at ht
  have hS := hS.put hp0u hp3u ht hf9
  have hf0 := hf0.tr (hf9.mono (kP_t hp0u hp3u))
  refine x_aload_n Z dX2_take_41 rfl rfl ?_
  refine x_aload Z dX2_take_42 rfl ?_
  refine x_callV (ci := 2) (C := RX1) (T := TX1) (N := 3) Z okX1_size q217 q218 q219 rfl dX2_take_44 (c_X1_size h0 htr ht) ht.1 ⟨Nat.le_of_ble_eq_true rfl, Nat.le_of_ble_eq_true rfl, Nat.le_of_ble_eq_true rfl, Nat.le_of_ble_eq_true rfl⟩ rfl rfl (Nat.le_of_ble_eq_true rfl) (fun v9 w9 hR => ?_)
  obtain ⟨rfl, e9⟩ := hR
  refine x_ew e9 ?_
  simp only [Option.toList_some, Option.toList_none, List.cons_append, List.nil_append]
  refine x_callV (ci := 3) (C := RX2) (T := TX2) (N := 4) Z okX2_acted q351 q353 q6 rfl dX2_take_47 (c_X2_acted h0 htr hS) hS.1 ⟨Nat.le_of_ble_eq_true rfl, Nat.le_of_ble_eq_true rfl, Nat.le_of_ble_eq_true rfl, Nat.le_of_ble_eq_true rfl⟩ rfl rfl (Nat.le_of_ble_eq_true rfl) (fun v9 w9 hR => ?_)
  obtain ⟨rfl, hS, hf9⟩ := hR
  have hf0 := hf0.tr hf9
  simp only [Option.toList_some, Option.toList_none, List.cons_append, List.nil_append]
  exact x_iret Z E (⟨⟨_, rfl, ⟨_, hS, aDo.mk rfl rfl bcm_eq, hf0⟩⟩, by omega⟩) dX2_take_50 (Nat.le_of_ble_eq_true rfl) (Nat.le_of_ble_eq_true rfl)
abbrev rmc_X2_mend : Room := { frames := 7, cells := 1, slots := 6, locals := 121 }
set_option maxRecDepth 100000 in
theorem c_X2_mend {l : Launch} {s0 : State} {G : gK} {w : wd} (h0 : gS0 s0) (htr : l.stackTraces = false) {K : kA} {M : kM} {t : Int} (hS : kS G w K M) (ht : inr t) : gM l s0 G yX2_mend [Cond.code yX2_mend cX2_mend 5 (some .int)] rmc_X2_mend [rv K.1, iv t] w (fun v w' => (∃ z : Int, v = some (iv z) ∧ kAct G w K M (acSift M.1 M.2.1 t (mnd (M.1 t) (M.2.1 t))) z w') ∧ 0 ≤ t ∧ t < 3) (fun X w' => X = "java/lang/IndexOutOfBoundsException" ∧ w' = w ∧ ¬ (0 ≤ t ∧ t < 3)) := by
  refine g_of h0 htr (by decide +kernel) (Nat.le_of_ble_eq_true rfl) ?_
  intro b Z0 E
  have Z : gAm b l s0 G cX2_mend RX2 5 rmc_X2_mend := Z0
  refine x_el (L' := [(0, rv K.1), (1, iv t)]) rfl ?_
  obtain ⟨hk1, ⟨f0, hk2, hk3⟩, hk4, hk5⟩ := id hS
  have hf0 : fr (kP K) w w := fr.rf
  refine x_aload_n Z dX2_mend_0 rfl rfl ?_
  refine x_iload_n Z dX2_mend_1 rfl rfl ?_
  refine x_callVx (ci := 3) (C := RX2) (T := TX2) (N := 4) Z okX2_textAt q313 q315 q3 rfl dX2_mend_2 (c_X2_textAt h0 htr hS (by assumption)) hS.1 ⟨Nat.le_of_ble_eq_true rfl, Nat.le_of_ble_eq_true rfl, Nat.le_of_ble_eq_true rfl, Nat.le_of_ble_eq_true rfl⟩ rfl rfl (Nat.le_of_ble_eq_true rfl) (fun X w9 hX => x_out Z E (⟨hX.1, hX.2.1, fun h => hX.2.2 (by omega)⟩) (Nat.le_of_ble_eq_true rfl) (Nat.le_of_ble_eq_true rfl)) (fun v9 w9 hR => ?_)
  obtain ⟨⟨rfl, e9⟩, hp0t, hp3t⟩ := hR
  refine x_ew e9 ?_
  simp only [Option.toList_some, Option.toList_none, List.cons_append, List.nil_append]
  obtain ⟨B, ht⟩ := hS.2.2.1 t hp0t hp3t
  obtain ⟨ha, hr, hb, hn0, hn30, hC⟩ := id ht
  have hm0 := hn0
  have hm30 := hn30
  have hmC := hC
  refine x_astore_n (L' := [(2, _), (0, _), (1, _)]) Z dX2_mend_5 rfl (Nat.le_of_ble_eq_true rfl) rfl ?_
  refine x_iconst Z dX2_mend_6 ?_
  refine x_istore_n (L' := [(3, _), (2, _), (0, _), (1, _)]) Z dX2_mend_7 rfl (Nat.le_of_ble_eq_true rfl) rfl ?_
  refine x_iconst Z dX2_mend_8 ?_
  refine x_istore (L' := [(4, _), (3, _), (2, _), (0, _), (1, _)]) Z dX2_mend_9 (Nat.le_of_ble_eq_true rfl) rfl ?_
  have loop11 : ∀ (fu : Nat) (i v : Int), M.1 t - i < (fu : Int) → (0 ≤ i ∧ i ≤ M.1 t ∧ inr v ∧ ((v = 0 ∧ i ≤ (findI (fun i => so (M.2.1 t i) 11) 0 (M.1 t))) ∨ (inX v ∧ (findI (fun i => so (M.2.1 t i) 11) 0 (M.1 t)) < i)) ∧ forI (mstep (mnd (M.1 t) (M.2.1 t))) i (M.1 t) v = msk (mnd (M.1 t) (M.2.1 t)) (M.1 t)) → gX b s0 G (1) (6) 11 [(4, iv i), (3, iv v), (2, rv (K.2.2.1 t)), (0, rv K.1), (1, iv t)] [] (w) := by
    intro fu; induction fu with
    | zero => intro i v hm hv; exact absurd hm (by omega)
    | succ fu ih11 =>
      intro i v hm hv
      obtain ⟨hi0, hin, hvr, hvx, hif⟩ := hv
      have hCi := hC i
      refine x_iload Z dX2_mend_11 rfl ?_
      refine x_aload_n Z dX2_mend_13 rfl rfl ?_
      refine x_callV (ci := 2) (C := RX1) (T := TX1) (N := 3) Z okX1_size q217 q218 q219 rfl dX2_mend_14 (c_X1_size h0 htr ht) ht.1 ⟨Nat.le_of_ble_eq_true rfl, Nat.le_of_ble_eq_true rfl, Nat.le_of_ble_eq_true rfl, Nat.le_of_ble_eq_true rfl⟩ rfl rfl (Nat.le_of_ble_eq_true rfl) (fun v9 w9 hR => ?_)
      obtain ⟨rfl, e9⟩ := hR
      refine x_ew e9 ?_
      simp only [Option.toList_some, Option.toList_none, List.cons_append, List.nil_append]
      refine x_icmp_ge Z 54 dX2_mend_17 (by decide) ⟨by omega, by omega⟩ ⟨by omega, by omega⟩ (fun c17 => ?_) (fun c17 => ?_)
      ·
        have hif2 : v = msk (mnd (M.1 t) (M.2.1 t)) (M.1 t) := by { rw [← hif, forI_e (by omega)] }
        refine x_aload_n Z dX2_mend_54 rfl rfl ?_
        refine x_aload_n Z dX2_mend_55 rfl rfl ?_
        refine x_iload_n Z dX2_mend_56 rfl rfl ?_
        refine x_callV (ci := 2) (C := RX1) (T := TX1) (N := 3) Z okX1_retain q385 q386 q387 rfl dX2_mend_57 (c_X1_retain h0 htr ht) ht.1 ⟨Nat.le_of_ble_eq_true rfl, Nat.le_of_ble_eq_true rfl, Nat.le_of_ble_eq_true rfl, Nat.le_of_ble_eq_true rfl⟩ rfl rfl (Nat.le_of_ble_eq_true rfl) (fun v9 w9 hR => ?_)
        obtain ⟨rfl, B, ht, hf9⟩ := hR
        obtain ⟨ha, hr, hb, hn0, hn30, hC⟩ := id ht
        simp only [Option.toList_some, Option.toList_none, List.cons_append, List.nil_append]
        have hS := hS.put hp0t hp3t ht hf9
        have hf0 := hf0.tr (hf9.mono (kP_t hp0t hp3t))
        refine x_callV (ci := 3) (C := RX2) (T := TX2) (N := 4) Z okX2_acted q351 q353 q6 rfl dX2_mend_60 (c_X2_acted h0 htr hS) hS.1 ⟨Nat.le_of_ble_eq_true rfl, Nat.le_of_ble_eq_true rfl, Nat.le_of_ble_eq_true rfl, Nat.le_of_ble_eq_true rfl⟩ rfl rfl (Nat.le_of_ble_eq_true rfl) (fun v9 w9 hR => ?_)
        obtain ⟨rfl, hS, hf9⟩ := hR
        have hf0 := hf0.tr hf9
        simp only [Option.toList_some, Option.toList_none, List.cons_append, List.nil_append]
        subst hif2
        exact x_iret Z E (⟨⟨_, rfl, ⟨_, hS, aDo.sift (sft_cg hm0 (fun j j0 jn => (by { rw [inB_msk hm0 (by omega) j0 (by omega), decide_eq_true jn]; rfl })) tEq.rf), hf0⟩⟩, by omega⟩) dX2_mend_63 (Nat.le_of_ble_eq_true rfl) (Nat.le_of_ble_eq_true rfl)
      ·
        refine x_aload_n Z dX2_mend_20 rfl rfl ?_
        refine x_iload Z dX2_mend_21 rfl ?_
        refine x_callV (ci := 2) (C := RX1) (T := TX1) (N := 3) Z okX1_signAt q365 q126 q127 rfl dX2_mend_23 (c_X1_signAt h0 htr ht (by omega) (by omega)) ht.1 ⟨Nat.le_of_ble_eq_true rfl, Nat.le_of_ble_eq_true rfl, Nat.le_of_ble_eq_true rfl, Nat.le_of_ble_eq_true rfl⟩ rfl rfl (Nat.le_of_ble_eq_true rfl) (fun v9 w9 hR => ?_)
        obtain ⟨rfl, e9⟩ := hR
        refine x_ew e9 ?_
        simp only [Option.toList_some, Option.toList_none, List.cons_append, List.nil_append]
        refine x_iload_n Z dX2_mend_26 rfl rfl ?_
        refine x_if_ne Z 34 dX2_mend_27 (by decide) ⟨by omega, by omega⟩ (fun c27 => ?_) (fun c27 => ?_)
        ·
          refine x_ib false Z dX2_mend_34 (by decide) ?_
          refine x_callS Z okX0_isLet q493 q185 dX2_mend_35 (c_X0_isLet h0 htr (by omega) (by omega)) ⟨Nat.le_of_ble_eq_true rfl, Nat.le_of_ble_eq_true rfl, Nat.le_of_ble_eq_true rfl, Nat.le_of_ble_eq_true rfl⟩ rfl rfl (Nat.le_of_ble_eq_true rfl) (fun v9 w9 hR => ?_)
          obtain ⟨rfl, e9⟩ := hR
          refine x_ew e9 ?_
          simp only [Option.toList_some, Option.toList_none, List.cons_append, List.nil_append]
          refine x_ifb_eq Z 48 dX2_mend_38 (by decide) (fun c38 => ?_) (fun c38 => ?_)
          ·
            refine x_iinc (L' := [(4, _), (3, _), (2, _), (0, _), (1, _)]) Z dX2_mend_48 rfl (Nat.le_of_ble_eq_true rfl) rfl ?_
            refine x_goto Z 11 dX2_mend_51 (by decide) ?_
            have hx1 : v = 0 → i ≤ (findI (fun i => so (M.2.1 t i) 11) 0 (M.1 t)) := fun e => by { rcases hvx with h | h; exact h.2; exact absurd e (inX_0 h.1) }
            have hx2 : v ≠ 0 → inX v ∧ (findI (fun i => so (M.2.1 t i) 11) 0 (M.1 t)) < i := fun e => by { rcases hvx with h | h; exact absurd h.1 e; exact h }
            first | (exact ih11 (i + 1) (bOr v (bShl 1 i)) (by omega) ⟨by omega, by omega, bOr_in _ _, Or.inr ⟨inX_l (hx2 c27).1, by have := (hx2 c27).2; omega⟩, by rw [← hif, forI_s (i := i) (by omega), mstep_t (P := mnd (M.1 t) (M.2.1 t)) ((mnd_b (hx2 c27).2).trans c38)]⟩) | (exact ih11 (i + 1) v (by omega) ⟨by omega, by omega, hvr, Or.inr ⟨(hx2 c27).1, by have := (hx2 c27).2; omega⟩, by rw [← hif, forI_s (i := i) (by omega), mstep_f (P := mnd (M.1 t) (M.2.1 t)) ((mnd_b (hx2 c27).2).trans c38)]⟩) | (exact ih11 (i + 1) (bOr v (bShl 1 i)) (by omega) ⟨by omega, by omega, bOr_in _ _, Or.inr ⟨inX_r hi0 (by omega), mnd_t hi0 (hx1 c27) c38⟩, by rw [← hif, forI_s (i := i) (by omega), mstep_t (P := mnd (M.1 t) (M.2.1 t)) ((mnd_a (hx1 c27)).trans c38)]⟩) | (exact ih11 (i + 1) v (by omega) ⟨by omega, by omega, hvr, Or.inl ⟨c27, mnd_f hi0 (by omega) (hx1 c27) c38⟩, by rw [← hif, forI_s (i := i) (by omega), mstep_f (P := mnd (M.1 t) (M.2.1 t)) ((mnd_a (hx1 c27)).trans c38)]⟩)
          ·
            refine x_iload_n Z dX2_mend_41 rfl rfl ?_
            refine x_iconst Z dX2_mend_42 ?_
            refine x_iload Z dX2_mend_43 rfl ?_
            refine x_ishl Z dX2_mend_45 ?_
            refine x_ior Z dX2_mend_46 ?_
            refine x_istore_n (L' := [(3, _), (4, _), (2, _), (0, _), (1, _)]) Z dX2_mend_47 rfl (Nat.le_of_ble_eq_true rfl) rfl ?_
            refine x_iinc (L' := [(4, _), (3, _), (2, _), (0, _), (1, _)]) Z dX2_mend_48 rfl (Nat.le_of_ble_eq_true rfl) rfl ?_
            refine x_goto Z 11 dX2_mend_51 (by decide) ?_
            have hx1 : v = 0 → i ≤ (findI (fun i => so (M.2.1 t i) 11) 0 (M.1 t)) := fun e => by { rcases hvx with h | h; exact h.2; exact absurd e (inX_0 h.1) }
            have hx2 : v ≠ 0 → inX v ∧ (findI (fun i => so (M.2.1 t i) 11) 0 (M.1 t)) < i := fun e => by { rcases hvx with h | h; exact absurd h.1 e; exact h }
            first | (exact ih11 (i + 1) (bOr v (bShl 1 i)) (by omega) ⟨by omega, by omega, bOr_in _ _, Or.inr ⟨inX_l (hx2 c27).1, by have := (hx2 c27).2; omega⟩, by rw [← hif, forI_s (i := i) (by omega), mstep_t (P := mnd (M.1 t) (M.2.1 t)) ((mnd_b (hx2 c27).2).trans c38)]⟩) | (exact ih11 (i + 1) v (by omega) ⟨by omega, by omega, hvr, Or.inr ⟨(hx2 c27).1, by have := (hx2 c27).2; omega⟩, by rw [← hif, forI_s (i := i) (by omega), mstep_f (P := mnd (M.1 t) (M.2.1 t)) ((mnd_b (hx2 c27).2).trans c38)]⟩) | (exact ih11 (i + 1) (bOr v (bShl 1 i)) (by omega) ⟨by omega, by omega, bOr_in _ _, Or.inr ⟨inX_r hi0 (by omega), mnd_t hi0 (hx1 c27) c38⟩, by rw [← hif, forI_s (i := i) (by omega), mstep_t (P := mnd (M.1 t) (M.2.1 t)) ((mnd_a (hx1 c27)).trans c38)]⟩) | (exact ih11 (i + 1) v (by omega) ⟨by omega, by omega, hvr, Or.inl ⟨c27, mnd_f hi0 (by omega) (hx1 c27) c38⟩, by rw [← hif, forI_s (i := i) (by omega), mstep_f (P := mnd (M.1 t) (M.2.1 t)) ((mnd_a (hx1 c27)).trans c38)]⟩)
        ·
          refine x_ib true Z dX2_mend_30 (by decide) ?_
          refine x_goto Z 35 dX2_mend_31 (by decide) ?_
          refine x_callS Z okX0_isLet q493 q185 dX2_mend_35 (c_X0_isLet h0 htr (by omega) (by omega)) ⟨Nat.le_of_ble_eq_true rfl, Nat.le_of_ble_eq_true rfl, Nat.le_of_ble_eq_true rfl, Nat.le_of_ble_eq_true rfl⟩ rfl rfl (Nat.le_of_ble_eq_true rfl) (fun v9 w9 hR => ?_)
          obtain ⟨rfl, e9⟩ := hR
          refine x_ew e9 ?_
          simp only [Option.toList_some, Option.toList_none, List.cons_append, List.nil_append]
          refine x_ifb_eq Z 48 dX2_mend_38 (by decide) (fun c38 => ?_) (fun c38 => ?_)
          ·
            refine x_iinc (L' := [(4, _), (3, _), (2, _), (0, _), (1, _)]) Z dX2_mend_48 rfl (Nat.le_of_ble_eq_true rfl) rfl ?_
            refine x_goto Z 11 dX2_mend_51 (by decide) ?_
            have hx1 : v = 0 → i ≤ (findI (fun i => so (M.2.1 t i) 11) 0 (M.1 t)) := fun e => by { rcases hvx with h | h; exact h.2; exact absurd e (inX_0 h.1) }
            have hx2 : v ≠ 0 → inX v ∧ (findI (fun i => so (M.2.1 t i) 11) 0 (M.1 t)) < i := fun e => by { rcases hvx with h | h; exact absurd h.1 e; exact h }
            first | (exact ih11 (i + 1) (bOr v (bShl 1 i)) (by omega) ⟨by omega, by omega, bOr_in _ _, Or.inr ⟨inX_l (hx2 c27).1, by have := (hx2 c27).2; omega⟩, by rw [← hif, forI_s (i := i) (by omega), mstep_t (P := mnd (M.1 t) (M.2.1 t)) ((mnd_b (hx2 c27).2).trans c38)]⟩) | (exact ih11 (i + 1) v (by omega) ⟨by omega, by omega, hvr, Or.inr ⟨(hx2 c27).1, by have := (hx2 c27).2; omega⟩, by rw [← hif, forI_s (i := i) (by omega), mstep_f (P := mnd (M.1 t) (M.2.1 t)) ((mnd_b (hx2 c27).2).trans c38)]⟩) | (exact ih11 (i + 1) (bOr v (bShl 1 i)) (by omega) ⟨by omega, by omega, bOr_in _ _, Or.inr ⟨inX_r hi0 (by omega), mnd_t hi0 (hx1 c27) c38⟩, by rw [← hif, forI_s (i := i) (by omega), mstep_t (P := mnd (M.1 t) (M.2.1 t)) ((mnd_a (hx1 c27)).trans c38)]⟩) | (exact ih11 (i + 1) v (by omega) ⟨by omega, by omega, hvr, Or.inl ⟨c27, mnd_f hi0 (by omega) (hx1 c27) c38⟩, by rw [← hif, forI_s (i := i) (by omega), mstep_f (P := mnd (M.1 t) (M.2.1 t)) ((mnd_a (hx1 c27)).trans c38)]⟩)
          ·
            refine x_iload_n Z dX2_mend_41 rfl rfl ?_
            refine x_iconst Z dX2_mend_42 ?_
            refine x_iload Z dX2_mend_43 rfl ?_
            refine x_ishl Z dX2_mend_45 ?_
            refine x_ior Z dX2_mend_46 ?_
            refine x_istore_n (L' := [(3, _), (4, _), (2, _), (0, _), (1, _)]) Z dX2_mend_47 rfl (Nat.le_of_ble_eq_true rfl) rfl ?_
            refine x_iinc (L' := [(4, _), (3, _), (2, _), (0, _), (1, _)]) Z dX2_mend_48 rfl (Nat.le_of_ble_eq_true rfl) rfl ?_
            refine x_goto Z 11 dX2_mend_51 (by decide) ?_
            have hx1 : v = 0 → i ≤ (findI (fun i => so (M.2.1 t i) 11) 0 (M.1 t)) := fun e => by { rcases hvx with h | h; exact h.2; exact absurd e (inX_0 h.1) }
            have hx2 : v ≠ 0 → inX v ∧ (findI (fun i => so (M.2.1 t i) 11) 0 (M.1 t)) < i := fun e => by { rcases hvx with h | h; exact absurd h.1 e; exact h }
            first | (exact ih11 (i + 1) (bOr v (bShl 1 i)) (by omega) ⟨by omega, by omega, bOr_in _ _, Or.inr ⟨inX_l (hx2 c27).1, by have := (hx2 c27).2; omega⟩, by rw [← hif, forI_s (i := i) (by omega), mstep_t (P := mnd (M.1 t) (M.2.1 t)) ((mnd_b (hx2 c27).2).trans c38)]⟩) | (exact ih11 (i + 1) v (by omega) ⟨by omega, by omega, hvr, Or.inr ⟨(hx2 c27).1, by have := (hx2 c27).2; omega⟩, by rw [← hif, forI_s (i := i) (by omega), mstep_f (P := mnd (M.1 t) (M.2.1 t)) ((mnd_b (hx2 c27).2).trans c38)]⟩) | (exact ih11 (i + 1) (bOr v (bShl 1 i)) (by omega) ⟨by omega, by omega, bOr_in _ _, Or.inr ⟨inX_r hi0 (by omega), mnd_t hi0 (hx1 c27) c38⟩, by rw [← hif, forI_s (i := i) (by omega), mstep_t (P := mnd (M.1 t) (M.2.1 t)) ((mnd_a (hx1 c27)).trans c38)]⟩) | (exact ih11 (i + 1) v (by omega) ⟨by omega, by omega, hvr, Or.inl ⟨c27, mnd_f hi0 (by omega) (hx1 c27) c38⟩, by rw [← hif, forI_s (i := i) (by omega), mstep_f (P := mnd (M.1 t) (M.2.1 t)) ((mnd_a (hx1 c27)).trans c38)]⟩)
  have hfz := findI_in (P := fun i => so (M.2.1 t i) 11) hm0
  exact loop11 40 0 0 (by omega) ⟨by omega, by omega, ⟨by decide, by decide⟩, Or.inl ⟨rfl, hfz.1⟩, rfl⟩
