/-! sb2: walks, by program -/
theorem q809 : Cond.methodLink RJ4 29 yJ5_append_cf1ce ∈ gT := gt_4 54 rfl rfl
theorem q810 : Cond.instanceMethod yJ5_append_cf1ce ∈ gT := gt_4 55 rfl rfl
theorem q811 : Cond.code yJ5_append_cf1ce cJ5_append_cf1ce 3 (some (.object "java/lang/AbstractStringBuilder")) ∈ gT := gt_4 56 rfl rfl
theorem q819 : Cond.methodLink RJ5 32 yJ0_length_8abf5 ∈ gT := gt_4 64 rfl rfl
theorem q820 : Cond.instanceMethod yJ0_length_8abf5 ∈ gT := gt_4 65 rfl rfl
theorem q821 : Cond.selects RJ0 yJ0_length_8abf5 yJ0_length_8abf5 ∈ gT := gt_4 66 rfl rfl
theorem q822 : Cond.code yJ0_length_8abf5 cJ0_length_8abf5 1 (some .int) ∈ gT := gt_4 67 rfl rfl
theorem q823 : Cond.methodLink RJ0 335 yJ0_coder_7d493 ∈ gT := gt_4 68 rfl rfl
theorem q824 : Cond.instanceMethod yJ0_coder_7d493 ∈ gT := gt_4 69 rfl rfl
theorem q825 : Cond.selects RJ0 yJ0_coder_7d493 yJ0_coder_7d493 ∈ gT := gt_4 70 rfl rfl
theorem q826 : Cond.code yJ0_coder_7d493 cJ0_coder_7d493 1 (some .byte) ∈ gT := gt_4 71 rfl rfl
theorem q827 : Cond.fieldLink RJ0 38 "java/lang/String" "COMPACT_STRINGS" "Z" ∈ gT := gt_4 72 rfl rfl
theorem q828 : Cond.methodLink RJ5 208 yJ5_putStringAt_47b60 ∈ gT := gt_4 73 rfl rfl
theorem q829 : Cond.privateMethod yJ5_putStringAt_47b60 ∈ lw_tbl := lt_4 74 rfl
theorem q830 : Cond.instanceMethod yJ5_putStringAt_47b60 ∈ gT := gt_4 75 rfl rfl
theorem q831 : Cond.code yJ5_putStringAt_47b60 cJ5_putStringAt_47b60 3 none ∈ gT := gt_4 76 rfl rfl
theorem q832 : Cond.methodLink RJ5 397 yJ5_inflateIfNeededFor_a7421 ∈ gT := gt_4 77 rfl rfl
theorem q833 : Cond.privateMethod yJ5_inflateIfNeededFor_a7421 ∈ lw_tbl := lt_4 78 rfl
theorem q834 : Cond.instanceMethod yJ5_inflateIfNeededFor_a7421 ∈ gT := gt_4 79 rfl rfl
theorem q835 : Cond.code yJ5_inflateIfNeededFor_a7421 cJ5_inflateIfNeededFor_a7421 2 none ∈ gT := gt_4 80 rfl rfl
theorem q836 : Cond.methodLink RJ5 40 yJ0_coder_7d493 ∈ gT := gt_4 81 rfl rfl
theorem q837 : Cond.methodLink RJ5 399 yJ0_getBytes_840e7 ∈ gT := gt_4 82 rfl rfl
theorem q838 : Cond.instanceMethod yJ0_getBytes_840e7 ∈ gT := gt_4 83 rfl rfl
theorem q839 : Cond.selects RJ0 yJ0_getBytes_840e7 yJ0_getBytes_840e7 ∈ gT := gt_4 84 rfl rfl
theorem q840 : Cond.code yJ0_getBytes_840e7 cJ0_getBytes_840e7 4 none ∈ gT := gt_4 85 rfl rfl
theorem q841 : Cond.methodLink RJ0 212 arraycopyName ∈ gT := gt_4 86 rfl rfl
theorem q1405 : Cond.sameMethod RJ5 RJ5 "append" "(Ljava/lang/String;)Ljava/lang/AbstractStringBuilder;" ∈ gT := gt_6 170 rfl rfl
theorem q1407 : Cond.sameMethod RJ5 RJ5 "putStringAt" "(ILjava/lang/String;)V" ∈ gT := gt_6 172 rfl rfl
theorem q1408 : Cond.sameMethod RJ5 RJ5 "inflateIfNeededFor" "(Ljava/lang/String;)V" ∈ gT := gt_6 173 rfl rfl
theorem okJ0_coder_7d493 : gOk yJ0_coder_7d493 cJ0_coder_7d493 1 (some .byte) 0 := ⟨q826, q48, ⟨by decide +kernel, by decide +kernel⟩, by decide +kernel⟩
theorem okJ5_inflateIfNeededFor_a7421 : gOk yJ5_inflateIfNeededFor_a7421 cJ5_inflateIfNeededFor_a7421 2 none 1 := ⟨q835, q46, ⟨by decide +kernel, by decide +kernel⟩, by decide +kernel⟩
theorem okJ0_getBytes_840e7 : gOk yJ0_getBytes_840e7 cJ0_getBytes_840e7 4 none 3 := ⟨q840, q48, ⟨by decide +kernel, by decide +kernel⟩, by decide +kernel⟩
theorem okJ0_length_8abf5 : gOk yJ0_length_8abf5 cJ0_length_8abf5 1 (some .int) 0 := ⟨q822, q48, ⟨by decide +kernel, by decide +kernel⟩, by decide +kernel⟩
theorem okJ5_putStringAt_47b60 : gOk yJ5_putStringAt_47b60 cJ5_putStringAt_47b60 3 none 2 := ⟨q831, q46, ⟨by decide +kernel, by decide +kernel⟩, by decide +kernel⟩
theorem okJ5_append_cf1ce : gOk yJ5_append_cf1ce cJ5_append_cf1ce 3 (some (.object "java/lang/AbstractStringBuilder")) 1 := ⟨q811, q46, ⟨by decide +kernel, by decide +kernel⟩, by decide +kernel⟩
abbrev rmc_J0_coder_7d493 : Room := { frames := 0, cells := 0, slots := 0, locals := 0 }
set_option maxRecDepth 100000 in
theorem c_J0_coder_7d493 {l : Launch} {s0 : State} {G : gK} {w : wd} (h0 : gS0 s0) (htr : l.stackTraces = false) {q vC len : Nat} {f : Int → Int} (hq : sC s0 q vC len f) : gM l s0 G yJ0_coder_7d493 [Cond.code yJ0_coder_7d493 cJ0_coder_7d493 1 (some .byte)] rmc_J0_coder_7d493 [rv q] w (fun v w' => v = some (iv (0)) ∧ w' = w) (noX) := by
  refine g_of h0 htr (by decide +kernel) (Nat.le_of_ble_eq_true rfl) ?_
  intro b Z0 E
  have Z : gAm b l s0 G cJ0_coder_7d493 RJ0 1 rmc_J0_coder_7d493 := Z0
  refine x_el (L' := [(0, rv q)]) rfl ?_
  obtain ⟨hqO, hqc, hqv, hqT⟩ := id hq
  have hzCOMPACT_STRINGS := st_CS h0 Z
  refine x_gets Z hzCOMPACT_STRINGS q827 rfl dJ0_coder_7d493_0 ?_
  refine x_if_eq Z 13 dJ0_coder_7d493_3 (by decide) ⟨by omega, by omega⟩ (fun c3 => ?_) (fun c3 => ?_)
  · exact absurd c3 (by omega)
  ·
    refine x_aload_n Z dJ0_coder_7d493_6 rfl rfl ?_
    refine x_getfC Z hqc q870 rfl dJ0_coder_7d493_7 ?_
    refine x_goto Z 14 dJ0_coder_7d493_10 (by decide) ?_
    exact x_bret Z E nb0 (⟨rfl, rfl⟩) dJ0_coder_7d493_14 (Nat.le_of_ble_eq_true rfl) (Nat.le_of_ble_eq_true rfl)
abbrev rmc_J0_length_8abf5 : Room := { frames := 1, cells := 0, slots := 0, locals := 20 }
set_option maxRecDepth 100000 in
theorem c_J0_length_8abf5 {l : Launch} {s0 : State} {G : gK} {w : wd} (h0 : gS0 s0) (htr : l.stackTraces = false) {q vC len : Nat} {f : Int → Int} (hq : sC s0 q vC len f) (hl : len ≤ 10) : gM l s0 G yJ0_length_8abf5 [Cond.code yJ0_length_8abf5 cJ0_length_8abf5 1 (some .int)] rmc_J0_length_8abf5 [rv q] w (fun v w' => v = some (iv ((len : Int))) ∧ w' = w) (noX) := by
  refine g_of h0 htr (by decide +kernel) (Nat.le_of_ble_eq_true rfl) ?_
  intro b Z0 E
  have Z : gAm b l s0 G cJ0_length_8abf5 RJ0 1 rmc_J0_length_8abf5 := Z0
  refine x_el (L' := [(0, rv q)]) rfl ?_
  obtain ⟨hqO, hqc, hqv, hqT⟩ := id hq
  refine x_aload_n Z dJ0_length_8abf5_0 rfl rfl ?_
  refine x_getfC Z hqv q869 rfl dJ0_length_8abf5_1 ?_
  refine x_alenT Z hqT dJ0_length_8abf5_4 ?_
  refine x_aload_n Z dJ0_length_8abf5_5 rfl rfl ?_
  refine x_callVC Z okJ0_coder_7d493 q823 q824 q825 dJ0_length_8abf5_6 (c_J0_coder_7d493 h0 htr hq) (by assumption) ⟨Nat.le_of_ble_eq_true rfl, Nat.le_of_ble_eq_true rfl, Nat.le_of_ble_eq_true rfl, Nat.le_of_ble_eq_true rfl⟩ rfl rfl (Nat.le_of_ble_eq_true rfl) (fun v9 w9 hR => ?_)
  obtain ⟨rfl, e9⟩ := hR
  refine x_ew e9 ?_
  simp only [Option.toList_some, Option.toList_none, List.cons_append, List.nil_append]
  refine x_ishr Z dJ0_length_8abf5_9 ?_
  refine x_tp (bShr0 ⟨by omega, by omega⟩) ?_
  exact x_iret Z E (⟨rfl, rfl⟩) dJ0_length_8abf5_10 (Nat.le_of_ble_eq_true rfl) (Nat.le_of_ble_eq_true rfl)
abbrev rmc_J0_getBytes_840e7 : Room := { frames := 1, cells := 0, slots := 0, locals := 40 }
set_option maxRecDepth 100000 in
theorem c_J0_getBytes_840e7 {l : Launch} {s0 : State} {G : gK} {w : wd} (h0 : gS0 s0) (htr : l.stackTraces = false) {q vC len : Nat} {f : Int → Int} {v m : Nat} {C : Int → Int} {p : Int} (hq : sC s0 q vC len f) (hl : len ≤ 10) (hv : w v = some (eB G m (sgF C))) (h1 : 0 ≤ p) (h2 : p + len ≤ m) (h3 : m ≤ 262) : gM l s0 G yJ0_getBytes_840e7 [Cond.code yJ0_getBytes_840e7 cJ0_getBytes_840e7 4 none] rmc_J0_getBytes_840e7 [rv q, rv v, iv p, iv 0] w (fun v9 w' => v9 = none ∧ ∃ C', w' v = some (eB G m (sgF C')) ∧ fr (fun x => x = v) w w') (noX) := by
  refine g_of h0 htr (by decide +kernel) (Nat.le_of_ble_eq_true rfl) ?_
  intro b Z0 E
  have Z : gAm b l s0 G cJ0_getBytes_840e7 RJ0 4 rmc_J0_getBytes_840e7 := Z0
  refine x_el (L' := [(0, rv q), (1, rv v), (2, iv p), (3, iv 0)]) rfl ?_
  obtain ⟨hqO, hqc, hqv, hqT⟩ := id hq
  refine x_aload_n Z dJ0_getBytes_840e7_0 rfl rfl ?_
  refine x_callVC Z okJ0_coder_7d493 q823 q824 q825 dJ0_getBytes_840e7_1 (c_J0_coder_7d493 h0 htr hq) (by assumption) ⟨Nat.le_of_ble_eq_true rfl, Nat.le_of_ble_eq_true rfl, Nat.le_of_ble_eq_true rfl, Nat.le_of_ble_eq_true rfl⟩ rfl rfl (Nat.le_of_ble_eq_true rfl) (fun v9 w9 hR => ?_)
  obtain ⟨rfl, e9⟩ := hR
  refine x_ew e9 ?_
  simp only [Option.toList_some, Option.toList_none, List.cons_append, List.nil_append]
  refine x_iload_n Z dJ0_getBytes_840e7_4 rfl rfl ?_
  refine x_icmp_ne Z 28 dJ0_getBytes_840e7_5 (by decide) ⟨by omega, by omega⟩ ⟨by omega, by omega⟩ (fun c5 => ?_) (fun c5 => ?_)
  · exact absurd c5 (by omega)
  ·
    refine x_aload_n Z dJ0_getBytes_840e7_8 rfl rfl ?_
    refine x_getfC Z hqv q869 rfl dJ0_getBytes_840e7_9 ?_
    refine x_iconst Z dJ0_getBytes_840e7_12 ?_
    refine x_aload_n Z dJ0_getBytes_840e7_13 rfl rfl ?_
    refine x_iload_n Z dJ0_getBytes_840e7_14 rfl rfl ?_
    refine x_iload_n Z dJ0_getBytes_840e7_15 rfl rfl ?_
    refine x_ishl Z dJ0_getBytes_840e7_16 ?_
    refine x_tp (bShl0 ⟨by omega, by omega⟩) ?_
    refine x_aload_n Z dJ0_getBytes_840e7_17 rfl rfl ?_
    refine x_getfC Z hqv q869 rfl dJ0_getBytes_840e7_18 ?_
    refine x_alenT Z hqT dJ0_getBytes_840e7_21 ?_
    refine x_acopyT Z q841 q683 q682 q53 dJ0_getBytes_840e7_22 hqT hv (by omega) (by omega) (by omega) (by omega) (by omega) (by omega) (by omega) (Nat.le_of_ble_eq_true rfl) (by exact Nat.le_of_ble_eq_true rfl) ?_
    refine x_goto Z 43 dJ0_getBytes_840e7_25 (by decide) ?_
    exact x_vret Z E (⟨rfl, _, ws1_s, fr.rf.set rfl⟩) dJ0_getBytes_840e7_43 (Nat.le_of_ble_eq_true rfl) (Nat.le_of_ble_eq_true rfl)
abbrev rmc_J5_inflateIfNeededFor_a7421 : Room := { frames := 1, cells := 0, slots := 0, locals := 20 }
set_option maxRecDepth 100000 in
theorem c_J5_inflateIfNeededFor_a7421 {l : Launch} {s0 : State} {G : gK} {w : wd} (h0 : gS0 s0) (htr : l.stackTraces = false) {a v : Nat} {ml n : Int} {m : Nat} {C : Int → Int} {q vC len : Nat} {f : Int → Int} (hs : sbS G w a v ml n m C) (hq : sC s0 q vC len f) : gM l s0 G yJ5_inflateIfNeededFor_a7421 [Cond.code yJ5_inflateIfNeededFor_a7421 cJ5_inflateIfNeededFor_a7421 2 none] rmc_J5_inflateIfNeededFor_a7421 [rv a, rv q] w (fun v9 w' => v9 = none ∧ w' = w) (noX) := by
  refine g_of h0 htr (by decide +kernel) (Nat.le_of_ble_eq_true rfl) ?_
  intro b Z0 E
  have Z : gAm b l s0 G cJ5_inflateIfNeededFor_a7421 RJ5 2 rmc_J5_inflateIfNeededFor_a7421 := Z0
  refine x_el (L' := [(0, rv a), (1, rv q)]) rfl ?_
  obtain ⟨hsa, hsv, hsn, hsm, hs9⟩ := id hs
  have hzCOMPACT_STRINGS := st_CS h0 Z
  refine x_gets Z hzCOMPACT_STRINGS q612 rfl dJ5_inflateIfNeededFor_a7421_0 ?_
  refine x_if_eq Z 21 dJ5_inflateIfNeededFor_a7421_3 (by decide) ⟨by omega, by omega⟩ (fun c3 => ?_) (fun c3 => ?_)
  · exact absurd c3 (by decide)
  ·
    refine x_aload_n Z dJ5_inflateIfNeededFor_a7421_6 rfl rfl ?_
    refine x_getf (ci := 1) (j := 1) (C := RJ4) (T := TJ4) (N := 4) Z inJ4g rfl (by decide) q622 rfl dJ5_inflateIfNeededFor_a7421_7 (by assumption) rfl ?_
    refine x_aload_n Z dJ5_inflateIfNeededFor_a7421_10 rfl rfl ?_
    refine x_callVC Z okJ0_coder_7d493 q836 q824 q825 dJ5_inflateIfNeededFor_a7421_11 (c_J0_coder_7d493 h0 htr hq) (by assumption) ⟨Nat.le_of_ble_eq_true rfl, Nat.le_of_ble_eq_true rfl, Nat.le_of_ble_eq_true rfl, Nat.le_of_ble_eq_true rfl⟩ rfl rfl (Nat.le_of_ble_eq_true rfl) (fun v9 w9 hR => ?_)
    obtain ⟨rfl, e9⟩ := hR
    refine x_ew e9 ?_
    simp only [Option.toList_some, Option.toList_none, List.cons_append, List.nil_append]
    refine x_icmp_eq Z 21 dJ5_inflateIfNeededFor_a7421_14 (by decide) ⟨by omega, by omega⟩ ⟨by omega, by omega⟩ (fun c14 => ?_) (fun c14 => ?_)
    ·
      exact x_vret Z E (⟨rfl, rfl⟩) dJ5_inflateIfNeededFor_a7421_21 (Nat.le_of_ble_eq_true rfl) (Nat.le_of_ble_eq_true rfl)
    · exact absurd c14 (by omega)
abbrev rmc_J5_putStringAt_47b60 : Room := { frames := 2, cells := 0, slots := 0, locals := 63 }
set_option maxRecDepth 100000 in
theorem c_J5_putStringAt_47b60 {l : Launch} {s0 : State} {G : gK} {w : wd} (h0 : gS0 s0) (htr : l.stackTraces = false) {a v : Nat} {ml n : Int} {m : Nat} {C : Int → Int} {q vC len : Nat} {f : Int → Int} (hs : sbS G w a v ml n m C) (hq : sC s0 q vC len f) (hl : len ≤ 10) (h2 : n + len ≤ m) : gM l s0 G yJ5_putStringAt_47b60 [Cond.code yJ5_putStringAt_47b60 cJ5_putStringAt_47b60 3 none] rmc_J5_putStringAt_47b60 [rv a, iv n, rv q] w (fun v9 w' => v9 = none ∧ ∃ C', w' v = some (eB G m (sgF C')) ∧ fr (fun x => x = v) w w') (noX) := by
  refine g_of h0 htr (by decide +kernel) (Nat.le_of_ble_eq_true rfl) ?_
  intro b Z0 E
  have Z : gAm b l s0 G cJ5_putStringAt_47b60 RJ5 3 rmc_J5_putStringAt_47b60 := Z0
  refine x_el (L' := [(0, rv a), (1, iv n), (2, rv q)]) rfl ?_
  obtain ⟨hsa, hsv, hsn, hsm, hs9⟩ := id hs
  refine x_aload_n Z dJ5_putStringAt_47b60_0 rfl rfl ?_
  refine x_aload_n Z dJ5_putStringAt_47b60_1 rfl rfl ?_
  refine x_callP (ci := 1) (C := RJ4) (T := TJ4) (N := 4) Z okJ5_inflateIfNeededFor_a7421 q832 q1408 q834 q833 q687 rfl ⟨by decide, by decide⟩ rfl dJ5_putStringAt_47b60_2 (c_J5_inflateIfNeededFor_a7421 h0 htr hs hq) hs.1 ⟨Nat.le_of_ble_eq_true rfl, Nat.le_of_ble_eq_true rfl, Nat.le_of_ble_eq_true rfl, Nat.le_of_ble_eq_true rfl⟩ rfl rfl (Nat.le_of_ble_eq_true rfl) (fun v9 w9 hR => ?_)
  obtain ⟨rfl, e9⟩ := hR
  refine x_ew e9 ?_
  simp only [Option.toList_some, Option.toList_none, List.cons_append, List.nil_append]
  refine x_aload_n Z dJ5_putStringAt_47b60_5 rfl rfl ?_
  refine x_aload_n Z dJ5_putStringAt_47b60_6 rfl rfl ?_
  refine x_getf (ci := 1) (j := 0) (C := RJ4) (T := TJ4) (N := 4) Z inJ4g rfl (by decide) q621 rfl dJ5_putStringAt_47b60_7 (by assumption) rfl ?_
  refine x_iload_n Z dJ5_putStringAt_47b60_10 rfl rfl ?_
  refine x_aload_n Z dJ5_putStringAt_47b60_11 rfl rfl ?_
  refine x_getf (ci := 1) (j := 1) (C := RJ4) (T := TJ4) (N := 4) Z inJ4g rfl (by decide) q622 rfl dJ5_putStringAt_47b60_12 (by assumption) rfl ?_
  refine x_callVC Z okJ0_getBytes_840e7 q837 q838 q839 dJ5_putStringAt_47b60_15 (c_J0_getBytes_840e7 h0 htr hq (by omega) hsv (by omega) (by omega) (by omega)) (by assumption) ⟨Nat.le_of_ble_eq_true rfl, Nat.le_of_ble_eq_true rfl, Nat.le_of_ble_eq_true rfl, Nat.le_of_ble_eq_true rfl⟩ rfl rfl (Nat.le_of_ble_eq_true rfl) (fun v9 w9 hR => ?_)
  obtain ⟨rfl, C7, hv7, hf7⟩ := hR
  simp only [Option.toList_some, Option.toList_none, List.cons_append, List.nil_append]
  exact x_vret Z E (⟨rfl, C7, hv7, hf7⟩) dJ5_putStringAt_47b60_18 (Nat.le_of_ble_eq_true rfl) (Nat.le_of_ble_eq_true rfl)
abbrev rmc_J5_append_cf1ce : Room := { frames := 8, cells := 2, slots := 268, locals := 147 }
set_option maxRecDepth 100000 in
theorem c_J5_append_cf1ce {l : Launch} {s0 : State} {G : gK} {w : wd} (h0 : gS0 s0) (htr : l.stackTraces = false) {a v : Nat} {ml n : Int} {m : Nat} {C : Int → Int} {q vC len : Nat} {f : Int → Int} (hs : sbS G w a v ml n m C) (hq : sC s0 q vC len f) (hl : len ≤ 10) (h1 : n + len ≤ 131) : gM l s0 G yJ5_append_cf1ce [Cond.code yJ5_append_cf1ce cJ5_append_cf1ce 3 (some (.object "java/lang/AbstractStringBuilder"))] rmc_J5_append_cf1ce [rv a, rv q] w (fun v9 w' => v9 = some (rv a) ∧ sbW G w a v (n + len) w') (noX) := by
  refine g_of h0 htr (by decide +kernel) (Nat.le_of_ble_eq_true rfl) ?_
  intro b Z0 E
  have Z : gAm b l s0 G cJ5_append_cf1ce RJ5 3 rmc_J5_append_cf1ce := Z0
  refine x_el (L' := [(0, rv a), (1, rv q)]) rfl ?_
  obtain ⟨hsa, hsv, hsn, hsm, hs9⟩ := id hs
  refine x_aload_n Z dJ5_append_cf1ce_0 rfl rfl ?_
  refine x_ifnn Z 9 dJ5_append_cf1ce_1 (by decide) ?_
  refine x_aload_n Z dJ5_append_cf1ce_9 rfl rfl ?_
  refine x_callVC Z okJ0_length_8abf5 q819 q820 q821 dJ5_append_cf1ce_10 (c_J0_length_8abf5 h0 htr hq (by omega)) (by assumption) ⟨Nat.le_of_ble_eq_true rfl, Nat.le_of_ble_eq_true rfl, Nat.le_of_ble_eq_true rfl, Nat.le_of_ble_eq_true rfl⟩ rfl rfl (Nat.le_of_ble_eq_true rfl) (fun v9 w9 hR => ?_)
  obtain ⟨rfl, e9⟩ := hR
  refine x_ew e9 ?_
  simp only [Option.toList_some, Option.toList_none, List.cons_append, List.nil_append]
  refine x_istore_n (L' := [(2, _), (0, _), (1, _)]) Z dJ5_append_cf1ce_13 rfl (Nat.le_of_ble_eq_true rfl) rfl ?_
  refine x_aload_n Z dJ5_append_cf1ce_14 rfl rfl ?_
  refine x_aload_n Z dJ5_append_cf1ce_15 rfl rfl ?_
  refine x_getf (ci := 1) (j := 3) (C := RJ4) (T := TJ4) (N := 4) Z inJ4g rfl (by decide) q624 rfl dJ5_append_cf1ce_16 (by assumption) rfl ?_
  refine x_iload_n Z dJ5_append_cf1ce_19 rfl rfl ?_
  refine x_iadd Z dJ5_append_cf1ce_20 ?_
  refine x_callP (ci := 1) (C := RJ4) (T := TJ4) (N := 4) Z okJ5_ensureCapacityInternal_d00df q651 q1400 q653 q652 q687 rfl ⟨by decide, by decide⟩ rfl dJ5_append_cf1ce_21 (c_J5_ensureCapacityInternal_d00df h0 htr hs (by omega) (by omega)) hs.1 ⟨Nat.le_of_ble_eq_true rfl, Nat.le_of_ble_eq_true rfl, Nat.le_of_ble_eq_true rfl, Nat.le_of_ble_eq_true rfl⟩ rfl rfl (Nat.le_of_ble_eq_true rfl) (fun v9 w9 hR => ?_)
  obtain ⟨rfl, v5, m, C, hs5, hqm, hvv, hf5⟩ := hR
  obtain ⟨hsa, hsv, hsn, hsm, hs9⟩ := id hs5
  have hd5 := hs5.d
  simp only [Option.toList_some, Option.toList_none, List.cons_append, List.nil_append]
  refine x_aload_n Z dJ5_append_cf1ce_24 rfl rfl ?_
  refine x_aload_n Z dJ5_append_cf1ce_25 rfl rfl ?_
  refine x_getf (ci := 1) (j := 3) (C := RJ4) (T := TJ4) (N := 4) Z inJ4g rfl (by decide) q624 rfl dJ5_append_cf1ce_26 (by assumption) rfl ?_
  refine x_aload_n Z dJ5_append_cf1ce_29 rfl rfl ?_
  refine x_callP (ci := 1) (C := RJ4) (T := TJ4) (N := 4) Z okJ5_putStringAt_47b60 q828 q1407 q830 q829 q687 rfl ⟨by decide, by decide⟩ rfl dJ5_append_cf1ce_30 (c_J5_putStringAt_47b60 h0 htr hs5 hq (by omega) (by omega)) hs5.1 ⟨Nat.le_of_ble_eq_true rfl, Nat.le_of_ble_eq_true rfl, Nat.le_of_ble_eq_true rfl, Nat.le_of_ble_eq_true rfl⟩ rfl rfl (Nat.le_of_ble_eq_true rfl) (fun v9 w9 hR => ?_)
  obtain ⟨rfl, C7, hv7, hf7⟩ := hR
  have ha7 := hf7.at hd5 hsa
  simp only [Option.toList_some, Option.toList_none, List.cons_append, List.nil_append]
  refine x_aload_n Z dJ5_append_cf1ce_33 rfl rfl ?_
  refine x_dup Z dJ5_append_cf1ce_34 rfl ?_
  refine x_getf (ci := 1) (j := 3) (C := RJ4) (T := TJ4) (N := 4) Z inJ4g rfl (by decide) q624 rfl dJ5_append_cf1ce_35 (by assumption) rfl ?_
  refine x_iload_n Z dJ5_append_cf1ce_38 rfl rfl ?_
  refine x_iadd Z dJ5_append_cf1ce_39 ?_
  refine x_putf (ci := 1) (j := 3) (C := RJ4) (T := TJ4) (N := 4) (fs' := [_, _, _, _]) Z tyJ4 tyJ4_ok nmJ4 inJ4g rfl (by decide) q624 rfl rfl rfl rfl rfl dJ5_append_cf1ce_40 (by assumption) (by exact Nat.le_of_ble_eq_true rfl) rfl ?_
  have hs2 : sbS G (ws1 w9 a (eO 1 [rv v5, iv 0, iv ml, iv (n + (len : Int))])) a v5 ml (n + (len : Int)) m C7 := ⟨ws1_s, (ws1_n hd5.symm).trans hv7, by omega, by omega, hs9⟩
  have hf2 : fr (sbP a v) w (ws1 w9 a (eO 1 [rv v5, iv 0, iv ml, iv (n + (len : Int))])) := (sbF2 hf5 hvv hf7).set (Or.inl rfl)
  refine x_aload_n Z dJ5_append_cf1ce_43 rfl rfl ?_
  exact x_aret Z E (⟨rfl, v5, ml, m, _, hs2, hvv, hf2⟩) dJ5_append_cf1ce_44 (Nat.le_of_ble_eq_true rfl) (Nat.le_of_ble_eq_true rfl)
abbrev rmc_J4_append_15ec4 : Room := { frames := 9, cells := 2, slots := 268, locals := 169 }
set_option maxRecDepth 100000 in
theorem c_J4_append_15ec4 {l : Launch} {s0 : State} {G : gK} {w : wd} (h0 : gS0 s0) (htr : l.stackTraces = false) {a v : Nat} {ml n : Int} {m : Nat} {C : Int → Int} {q vC len : Nat} {f : Int → Int} (hs : sbS G w a v ml n m C) (hq : sC s0 q vC len f) (hl : len ≤ 10) (h1 : n + len ≤ 131) : gM l s0 G yJ4_append_15ec4 [Cond.code yJ4_append_15ec4 cJ4_append_15ec4 2 (some (.object "java/lang/StringBuilder"))] rmc_J4_append_15ec4 [rv a, rv q] w (fun v9 w' => v9 = some (rv a) ∧ sbW G w a v (n + len) w') (noX) := by
  refine g_of h0 htr (by decide +kernel) (Nat.le_of_ble_eq_true rfl) ?_
  intro b Z0 E
  have Z : gAm b l s0 G cJ4_append_15ec4 RJ4 2 rmc_J4_append_15ec4 := Z0
  refine x_el (L' := [(0, rv a), (1, rv q)]) rfl ?_
  refine x_aload_n Z dJ4_append_15ec4_0 rfl rfl ?_
  refine x_aload_n Z dJ4_append_15ec4_1 rfl rfl ?_
  refine x_callSU (ci := 1) (C := RJ4) (T := TJ4) (N := 4) Z okJ5_append_cf1ce q809 q1405 q633 q810 (by decide) rfl dJ4_append_15ec4_2 (c_J5_append_cf1ce h0 htr hs hq (by omega) (by omega)) hs.1 ⟨Nat.le_of_ble_eq_true rfl, Nat.le_of_ble_eq_true rfl, Nat.le_of_ble_eq_true rfl, Nat.le_of_ble_eq_true rfl⟩ rfl rfl (Nat.le_of_ble_eq_true rfl) (fun v9 w9 hR => ?_)
  obtain ⟨rfl, hW⟩ := hR
  simp only [Option.toList_some, Option.toList_none, List.cons_append, List.nil_append]
  refine x_pop Z dJ4_append_15ec4_5 rfl ?_
  refine x_aload_n Z dJ4_append_15ec4_6 rfl rfl ?_
  exact x_aret Z E (⟨rfl, hW⟩) dJ4_append_15ec4_7 (Nat.le_of_ble_eq_true rfl) (Nat.le_of_ble_eq_true rfl)
