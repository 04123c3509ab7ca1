/-! ref3: walks, by program -/
theorem q11 : Cond.selects RX4 yX4_isThrown yX4_isThrown ∈ gT := gt_s 11 rfl rfl
theorem q15 : Cond.selects RX4 yX4_isThrown_ yX4_isThrown_ ∈ gT := gt_s 15 rfl rfl
theorem q1044 : Cond.fieldLink RX4 77 "KindcutterModel" "acts" "I" ∈ gT := gt_5 49 rfl rfl
theorem q1045 : Cond.fieldLink RX4 80 "KindcutterModel" "refused" "I" ∈ gT := gt_5 50 rfl rfl
theorem q1046 : Cond.fieldLink RX4 169 "KindcutterModel" "knocks" "I" ∈ gT := gt_5 51 rfl rfl
theorem q1047 : Cond.fieldLink RX4 30 "KindcutterModel" "thrown" "I" ∈ gT := gt_5 52 rfl rfl
theorem q1077 : Cond.methodLink RX4 73 yX4_isThrown ∈ gT := gt_5 82 rfl rfl
theorem q1079 : Cond.instanceMethod yX4_isThrown ∈ gT := gt_5 84 rfl rfl
theorem q1080 : Cond.code yX4_isThrown cX4_isThrown 3 (some .boolean) ∈ gT := gt_5 85 rfl rfl
theorem q1106 : Cond.methodLink RX4 100 yX4_isThrown_ ∈ gT := gt_5 111 rfl rfl
theorem q1108 : Cond.instanceMethod yX4_isThrown_ ∈ gT := gt_5 113 rfl rfl
theorem q1109 : Cond.code yX4_isThrown_ cX4_isThrown_ 2 (some .boolean) ∈ gT := gt_5 114 rfl rfl
theorem q1142 : Cond.methodLink RX4 107 yX4_isQuestion ∈ gT := gt_5 147 rfl rfl
theorem q1143 : Cond.static yX4_isQuestion ∈ gT := gt_5 148 rfl rfl
theorem q1144 : Cond.code yX4_isQuestion cX4_isQuestion 1 (some .boolean) ∈ gT := gt_5 149 rfl rfl
theorem q1164 : Cond.methodLink RX4 114 yX4_isKind ∈ gT := gt_5 169 rfl rfl
theorem q1165 : Cond.static yX4_isKind ∈ gT := gt_5 170 rfl rfl
theorem q1166 : Cond.code yX4_isKind cX4_isKind 1 (some .boolean) ∈ gT := gt_5 171 rfl rfl
theorem q1223 : Cond.methodLink RX4 120 yX4_isSpan ∈ gT := gt_5 228 rfl rfl
theorem q1224 : Cond.static yX4_isSpan ∈ gT := gt_5 229 rfl rfl
theorem q1225 : Cond.code yX4_isSpan cX4_isSpan 2 (some .boolean) ∈ gT := gt_5 230 rfl rfl
theorem okX4_isThrown : gOk yX4_isThrown cX4_isThrown 3 (some .boolean) 2 := ⟨q1080, q38, ⟨by decide +kernel, by decide +kernel⟩, by decide +kernel⟩
theorem okX4_isThrown_ : gOk yX4_isThrown_ cX4_isThrown_ 2 (some .boolean) 1 := ⟨q1109, q38, ⟨by decide +kernel, by decide +kernel⟩, by decide +kernel⟩
theorem okX4_isQuestion : gOk yX4_isQuestion cX4_isQuestion 1 (some .boolean) 1 := ⟨q1144, q38, ⟨by decide +kernel, by decide +kernel⟩, by decide +kernel⟩
theorem okX4_isKind : gOk yX4_isKind cX4_isKind 1 (some .boolean) 1 := ⟨q1166, q38, ⟨by decide +kernel, by decide +kernel⟩, by decide +kernel⟩
theorem okX4_isSpan : gOk yX4_isSpan cX4_isSpan 2 (some .boolean) 2 := ⟨q1225, q38, ⟨by decide +kernel, by decide +kernel⟩, by decide +kernel⟩
theorem bOr0 {v : Int} (h : inr v) : bOr v 0 = v := by
  unfold bOr
  rw [zI_0, Int32.or_zero]
  exact zI_toInt h.1 h.2
abbrev rmc_X4_isThrown : Room := { frames := 0, cells := 0, slots := 0, locals := 0 }
set_option maxRecDepth 100000 in
theorem c_X4_isThrown {l : Launch} {s0 : State} {G : gK} {w : wd} (h0 : gS0 s0) (htr : l.stackTraces = false) {R : rA} {S : rM} {c1 c2 : Bool} (hS : rS G w R S) : gM l s0 G yX4_isThrown [Cond.code yX4_isThrown cX4_isThrown 3 (some .boolean)] rmc_X4_isThrown [rv R.1, iv (b2 c1), iv (b2 c2)] w (fun v w' => v = some (iv (b2 (c1 || c2))) ∧ rS G w' R (rT S (th2 c1 c2)) ∧ fr (rP R S.1) w w') (noX) := by
  refine g_of h0 htr (by decide +kernel) (Nat.le_of_ble_eq_true rfl) ?_
  intro b Z0 E
  have Z : gAm b l s0 G cX4_isThrown RX4 3 rmc_X4_isThrown := Z0
  refine x_el (L' := [(0, rv R.1), (1, iv (b2 c1)), (2, iv (b2 c2))]) rfl ?_
  obtain ⟨hr1, hr2, ⟨f3, hr3, hf3⟩, hr4, hr5, hr6⟩ := id hS
  have join18 : ∀ (x : Int), x = th2 c1 c2 → gX b s0 G (0) (0) 18 [(0, rv R.1), (1, iv (b2 c1)), (2, iv (b2 c2))] [iv x, rv R.1] (w) := by
    intro x hv
    have hth : 0 ≤ th2 c1 c2 ∧ th2 c1 c2 ≤ 2 := by { cases c1 <;> cases c2 <;> decide }
    subst hv
    refine x_putf (ci := 5) (j := 6) (C := RX4) (T := TX4) (N := 7) (fs' := [_, _, _, _, _, _, _]) Z tyX4 tyX4_ok nmX4 inX4g rfl (by decide) q1047 rfl rfl rfl rfl rfl dX4_isThrown_18 (by assumption) (by exact Nat.le_of_ble_eq_true rfl) rfl ?_
    refine x_aload_n Z dX4_isThrown_21 rfl rfl ?_
    refine x_getf (ci := 5) (j := 6) (C := RX4) (T := TX4) (N := 7) Z inX4g rfl (by decide) q1047 rfl dX4_isThrown_22 ws1_s rfl ?_
    refine x_if_le Z 32 dX4_isThrown_25 (by decide) ⟨by omega, by omega⟩ (fun c25 => ?_) (fun c25 => ?_)
    ·
      refine x_ib false Z dX4_isThrown_32 (by decide) ?_
      exact x_zret Z E (⟨by have h8 := c25; revert h8; cases c1 <;> cases c2 <;> (intro h8; first | rfl | exact absurd h8 (by decide)), hS.obj _ _ _ _, fr.rf.set (Or.inl rfl)⟩) dX4_isThrown_33 (Nat.le_of_ble_eq_true rfl) (Nat.le_of_ble_eq_true rfl)
    ·
      refine x_ib true Z dX4_isThrown_28 (by decide) ?_
      refine x_goto Z 33 dX4_isThrown_29 (by decide) ?_
      exact x_zret Z E (⟨by have h8 := c25; revert h8; cases c1 <;> cases c2 <;> (intro h8; first | rfl | exact absurd h8 (by decide)), hS.obj _ _ _ _, fr.rf.set (Or.inl rfl)⟩) dX4_isThrown_33 (Nat.le_of_ble_eq_true rfl) (Nat.le_of_ble_eq_true rfl)
  refine x_aload_n Z dX4_isThrown_0 rfl rfl ?_
  refine x_iload_n Z dX4_isThrown_1 rfl rfl ?_
  refine x_ifb_eq Z 9 dX4_isThrown_2 (by decide) (fun c2 => ?_) (fun c2 => ?_)
  ·
    refine x_iload_n Z dX4_isThrown_9 rfl rfl ?_
    refine x_ifb_eq Z 17 dX4_isThrown_10 (by decide) (fun c10 => ?_) (fun c10 => ?_)
    ·
      refine x_iconst Z dX4_isThrown_17 ?_
      exact join18 _ (by first | (rw [c2]; rfl) | (rw [c2, c10]; rfl))
    ·
      refine x_iconst Z dX4_isThrown_13 ?_
      refine x_goto Z 18 dX4_isThrown_14 (by decide) ?_
      exact join18 _ (by first | (rw [c2]; rfl) | (rw [c2, c10]; rfl))
  ·
    refine x_iconst Z dX4_isThrown_5 ?_
    refine x_goto Z 18 dX4_isThrown_6 (by decide) ?_
    exact join18 _ (by first | (rw [c2]; rfl) | (rw [c2, c10]; rfl))
abbrev rmc_X4_isThrown_ : Room := { frames := 1, cells := 0, slots := 0, locals := 22 }
set_option maxRecDepth 100000 in
theorem c_X4_isThrown_ {l : Launch} {s0 : State} {G : gK} {w : wd} (h0 : gS0 s0) (htr : l.stackTraces = false) {R : rA} {S : rM} {c1 : Bool} (hS : rS G w R S) : gM l s0 G yX4_isThrown_ [Cond.code yX4_isThrown_ cX4_isThrown_ 2 (some .boolean)] rmc_X4_isThrown_ [rv R.1, iv (b2 c1)] w (fun v w' => v = some (iv (b2 c1)) ∧ rS G w' R (rT S (th2 c1 false)) ∧ fr (rP R S.1) w w') (noX) := by
  refine g_of h0 htr (by decide +kernel) (Nat.le_of_ble_eq_true rfl) ?_
  intro b Z0 E
  have Z : gAm b l s0 G cX4_isThrown_ RX4 2 rmc_X4_isThrown_ := Z0
  refine x_el (L' := [(0, rv R.1), (1, iv (b2 c1))]) rfl ?_
  have hf0 : fr (rP R S.1) w w := fr.rf
  refine x_aload_n Z dX4_isThrown__0 rfl rfl ?_
  refine x_iload_n Z dX4_isThrown__1 rfl rfl ?_
  refine x_ib false Z dX4_isThrown__2 (by decide) ?_
  refine x_callV (ci := 5) (C := RX4) (T := TX4) (N := 7) Z okX4_isThrown q1077 q1079 q11 rfl dX4_isThrown__3 (c_X4_isThrown h0 htr hS) hS.1 ⟨Nat.le_of_ble_eq_true rfl, Nat.le_of_ble_eq_true rfl, Nat.le_of_ble_eq_true rfl, Nat.le_of_ble_eq_true rfl⟩ rfl rfl (Nat.le_of_ble_eq_true rfl) (fun v9 w9 hR => ?_)
  obtain ⟨rfl, hS, hf9⟩ := hR
  have hf0 := hf0.tr hf9
  simp only [Option.toList_some, Option.toList_none, List.cons_append, List.nil_append]
  exact x_zret Z E (⟨by cases c1 <;> rfl, hS, hf9⟩) dX4_isThrown__6 (Nat.le_of_ble_eq_true rfl) (Nat.le_of_ble_eq_true rfl)
abbrev rmc_X4_done : Room := { frames := 0, cells := 0, slots := 0, locals := 0 }
set_option maxRecDepth 100000 in
theorem c_X4_done {l : Launch} {s0 : State} {G : gK} {w : wd} (h0 : gS0 s0) (htr : l.stackTraces = false) {R : rA} {S : rM} {z : Int} (hS : rS G w R S) : gM l s0 G yX4_done [Cond.code yX4_done cX4_done 2 (some .int)] rmc_X4_done [rv R.1, iv z] w (fun v w' => v = some (iv z) ∧ rS G w' R (S.1, S.2.1, S.2.2.1, S.2.2.2.1 + 1, S.2.2.2.2.1, S.2.2.2.2.2.1, S.2.2.2.2.2.2) ∧ fr (rP R S.1) w w') (noX) := by
  refine g_of h0 htr (by decide +kernel) (Nat.le_of_ble_eq_true rfl) ?_
  intro b Z0 E
  have Z : gAm b l s0 G cX4_done RX4 2 rmc_X4_done := Z0
  refine x_el (L' := [(0, rv R.1), (1, iv z)]) rfl ?_
  obtain ⟨hr1, hr2, ⟨f3, hr3, hf3⟩, hr4, hr5, hr6⟩ := id hS
  refine x_aload_n Z dX4_done_0 rfl rfl ?_
  refine x_dup Z dX4_done_1 rfl ?_
  refine x_getf (ci := 5) (j := 3) (C := RX4) (T := TX4) (N := 7) Z inX4g rfl (by decide) q1044 rfl dX4_done_2 (by assumption) rfl ?_
  refine x_iconst Z dX4_done_5 ?_
  refine x_iadd Z dX4_done_6 ?_
  refine x_putf (ci := 5) (j := 3) (C := RX4) (T := TX4) (N := 7) (fs' := [_, _, _, _, _, _, _]) Z tyX4 tyX4_ok nmX4 inX4g rfl (by decide) q1044 rfl rfl rfl rfl rfl dX4_done_7 (by assumption) (by exact Nat.le_of_ble_eq_true rfl) rfl ?_
  refine x_iload_n Z dX4_done_10 rfl rfl ?_
  exact x_iret Z E (⟨rfl, hS.obj _ _ _ _, fr.rf.set (Or.inl rfl)⟩) dX4_done_11 (Nat.le_of_ble_eq_true rfl) (Nat.le_of_ble_eq_true rfl)
abbrev rmc_X4_no : Room := { frames := 0, cells := 0, slots := 0, locals := 0 }
set_option maxRecDepth 100000 in
theorem c_X4_no {l : Launch} {s0 : State} {G : gK} {w : wd} (h0 : gS0 s0) (htr : l.stackTraces = false) {R : rA} {S : rM} (hS : rS G w R S) : gM l s0 G yX4_no [Cond.code yX4_no cX4_no 1 (some .int)] rmc_X4_no [rv R.1] w (fun v w' => v = some (iv (-9)) ∧ rS G w' R (S.1, S.2.1, S.2.2.1, S.2.2.2.1, S.2.2.2.2.1 + 1, S.2.2.2.2.2.1, S.2.2.2.2.2.2) ∧ fr (rP R S.1) w w') (noX) := by
  refine g_of h0 htr (by decide +kernel) (Nat.le_of_ble_eq_true rfl) ?_
  intro b Z0 E
  have Z : gAm b l s0 G cX4_no RX4 1 rmc_X4_no := Z0
  refine x_el (L' := [(0, rv R.1)]) rfl ?_
  obtain ⟨hr1, hr2, ⟨f3, hr3, hf3⟩, hr4, hr5, hr6⟩ := id hS
  refine x_aload_n Z dX4_no_0 rfl rfl ?_
  refine x_dup Z dX4_no_1 rfl ?_
  refine x_getf (ci := 5) (j := 4) (C := RX4) (T := TX4) (N := 7) Z inX4g rfl (by decide) q1045 rfl dX4_no_2 (by assumption) rfl ?_
  refine x_iconst Z dX4_no_5 ?_
  refine x_iadd Z dX4_no_6 ?_
  refine x_putf (ci := 5) (j := 4) (C := RX4) (T := TX4) (N := 7) (fs' := [_, _, _, _, _, _, _]) Z tyX4 tyX4_ok nmX4 inX4g rfl (by decide) q1045 rfl rfl rfl rfl rfl dX4_no_7 (by assumption) (by exact Nat.le_of_ble_eq_true rfl) rfl ?_
  refine x_bipush Z dX4_no_10 (by decide +kernel) ?_
  exact x_iret Z E (⟨rfl, hS.obj _ _ _ _, fr.rf.set (Or.inl rfl)⟩) dX4_no_12 (Nat.le_of_ble_eq_true rfl) (Nat.le_of_ble_eq_true rfl)
abbrev rmc_X4_knock : Room := { frames := 0, cells := 0, slots := 0, locals := 0 }
set_option maxRecDepth 100000 in
theorem c_X4_knock {l : Launch} {s0 : State} {G : gK} {w : wd} (h0 : gS0 s0) (htr : l.stackTraces = false) {R : rA} {S : rM} (hS : rS G w R S) : gM l s0 G yX4_knock [Cond.code yX4_knock cX4_knock 1 (some .int)] rmc_X4_knock [rv R.1] w (fun v w' => v = some (iv (S.2.2.2.2.2.1 + 1)) ∧ rS G w' R (S.1, S.2.1, S.2.2.1, S.2.2.2.1, S.2.2.2.2.1, S.2.2.2.2.2.1 + 1, 0) ∧ fr (rP R S.1) w w') (noX) := by
  refine g_of h0 htr (by decide +kernel) (Nat.le_of_ble_eq_true rfl) ?_
  intro b Z0 E
  have Z : gAm b l s0 G cX4_knock RX4 1 rmc_X4_knock := Z0
  refine x_el (L' := [(0, rv R.1)]) rfl ?_
  obtain ⟨hr1, hr2, ⟨f3, hr3, hf3⟩, hr4, hr5, hr6⟩ := id hS
  refine x_aload_n Z dX4_knock_0 rfl rfl ?_
  refine x_iconst Z dX4_knock_1 ?_
  refine x_putf (ci := 5) (j := 6) (C := RX4) (T := TX4) (N := 7) (fs' := [_, _, _, _, _, _, _]) Z tyX4 tyX4_ok nmX4 inX4g rfl (by decide) q1047 rfl rfl rfl rfl rfl dX4_knock_2 (by assumption) (by exact Nat.le_of_ble_eq_true rfl) rfl ?_
  refine x_aload_n Z dX4_knock_5 rfl rfl ?_
  refine x_dup Z dX4_knock_6 rfl ?_
  refine x_getf (ci := 5) (j := 5) (C := RX4) (T := TX4) (N := 7) Z inX4g rfl (by decide) q1046 rfl dX4_knock_7 ws1_s rfl ?_
  refine x_iconst Z dX4_knock_10 ?_
  refine x_iadd Z dX4_knock_11 ?_
  refine x_putf (ci := 5) (j := 5) (C := RX4) (T := TX4) (N := 7) (fs' := [_, _, _, _, _, _, _]) Z tyX4 tyX4_ok nmX4 inX4g rfl (by decide) q1046 rfl rfl rfl rfl rfl dX4_knock_12 ws1_s (by exact Nat.le_of_ble_eq_true rfl) rfl ?_
  refine x_aload_n Z dX4_knock_15 rfl rfl ?_
  refine x_getf (ci := 5) (j := 5) (C := RX4) (T := TX4) (N := 7) Z inX4g rfl (by decide) q1046 rfl dX4_knock_16 ws1_s rfl ?_
  exact x_iret Z E (⟨rfl, by rw [ws1_2]; exact hS.obj _ _ _ _, (fr.rf.set (Or.inl rfl)).set (Or.inl rfl)⟩) dX4_knock_19 (Nat.le_of_ble_eq_true rfl) (Nat.le_of_ble_eq_true rfl)
abbrev rmc_X4_kind : Room := { frames := 2, cells := 0, slots := 0, locals := 43 }
set_option maxRecDepth 100000 in
theorem c_X4_kind {l : Launch} {s0 : State} {G : gK} {w : wd} (h0 : gS0 s0) (htr : l.stackTraces = false) {R : rA} {S : rM} {s : Int} (hS : rS G w R S) (his : inr s) : gM l s0 G yX4_kind [Cond.code yX4_kind cX4_kind 2 (some .int)] rmc_X4_kind [rv R.1, iv s] w (fun v w' => ∃ (z : Int) (T : Int), v = some (iv z) ∧ rS G w' R (rT S T) ∧ fr (rP R S.1) w w' ∧ ((T = 1 ∧ ¬ (0 ≤ s ∧ s < 256)) ∨ (T = 0 ∧ (0 ≤ s ∧ s < 256) ∧ (z = kin s)))) (noX) := by
  refine g_of h0 htr (by decide +kernel) (Nat.le_of_ble_eq_true rfl) ?_
  intro b Z0 E
  have Z : gAm b l s0 G cX4_kind RX4 2 rmc_X4_kind := Z0
  refine x_el (L' := [(0, rv R.1), (1, iv s)]) rfl ?_
  obtain ⟨hr1, hr2, ⟨f3, hr3, hf3⟩, hr4, hr5, hr6⟩ := id hS
  have hf0 : fr (rP R S.1) w w := fr.rf
  have join13 : ∀ (c1 : Bool), (c1 = true ↔ ¬ (0 ≤ s ∧ s < 256)) → gX b s0 G (0) (0) 13 [(0, rv R.1), (1, iv s)] [iv (b2 c1), rv R.1] (w) := by
    intro c1 hv
    have hc1 := hv
    refine x_callV (ci := 5) (C := RX4) (T := TX4) (N := 7) Z okX4_isThrown_ q1106 q1108 q15 rfl dX4_kind_13 (c_X4_isThrown_ h0 htr hS) hS.1 ⟨Nat.le_of_ble_eq_true rfl, Nat.le_of_ble_eq_true rfl, Nat.le_of_ble_eq_true rfl, Nat.le_of_ble_eq_true rfl⟩ rfl rfl (Nat.le_of_ble_eq_true rfl) (fun v9 w9 hR => ?_)
    obtain ⟨rfl, hS, hf9⟩ := hR
    have hf0 := hf0.tr hf9
    simp only [Option.toList_some, Option.toList_none, List.cons_append, List.nil_append]
    refine x_ifb_eq Z 23 dX4_kind_16 (by decide) (fun c16 => ?_) (fun c16 => ?_)
    ·
      have ea := c16
      have o1 := bq_n hc1 ea
      subst ea
      obtain ⟨hr1, hr2, ⟨f3, hr3, hf3⟩, hr4, hr5, hr6⟩ := id hS
      refine x_aload_n Z dX4_kind_23 rfl rfl ?_
      refine x_getf (ci := 5) (j := 0) (C := RX4) (T := TX4) (N := 7) Z inX4g rfl (by decide) q1041 rfl dX4_kind_24 (by assumption) rfl ?_
      refine x_iload_n Z dX4_kind_27 rfl rfl ?_
      refine x_iald Z dX4_kind_28 (by assumption) (by omega) (by omega) (by omega) ?_
      exact x_iret Z E (by first | exact ⟨_, _, rfl, hS, hf0, Or.inl ⟨by rw [hbad]; rfl, hc1.mp hbad⟩⟩ | exact ⟨_, _, rfl, hS, hf0, Or.inr ⟨rfl, o1, rfl⟩⟩) dX4_kind_29 (Nat.le_of_ble_eq_true rfl) (Nat.le_of_ble_eq_true rfl)
    ·
      have hbad := c16
      refine x_iconst Z dX4_kind_19 ?_
      refine x_goto Z 29 dX4_kind_20 (by decide) ?_
      exact x_iret Z E (by first | exact ⟨_, _, rfl, hS, hf0, Or.inl ⟨by rw [hbad]; rfl, hc1.mp hbad⟩⟩ | exact ⟨_, _, rfl, hS, hf0, Or.inr ⟨rfl, o1, rfl⟩⟩) dX4_kind_29 (Nat.le_of_ble_eq_true rfl) (Nat.le_of_ble_eq_true rfl)
  refine x_aload_n Z dX4_kind_0 rfl rfl ?_
  refine x_iload_n Z dX4_kind_1 rfl rfl ?_
  refine x_callS Z okX4_isSign q1074 q1075 dX4_kind_2 (c_X4_isSign h0 htr (by assumption)) ⟨Nat.le_of_ble_eq_true rfl, Nat.le_of_ble_eq_true rfl, Nat.le_of_ble_eq_true rfl, Nat.le_of_ble_eq_true rfl⟩ rfl rfl (Nat.le_of_ble_eq_true rfl) (fun v9 w9 hR => ?_)
  obtain ⟨o9, rfl, e9, hq⟩ := hR
  refine x_ew e9 ?_
  simp only [Option.toList_some, Option.toList_none, List.cons_append, List.nil_append]
  refine x_ifb_ne Z 12 dX4_kind_5 (by decide) (fun c5 => ?_) (fun c5 => ?_)
  ·
    have f5 := bq_t hq c5
    refine x_ib false Z dX4_kind_12 (by decide) ?_
    exact join13 _ (by first | exact ⟨fun _ => by omega, fun _ => rfl⟩ | exact ⟨fun h => absurd h (by decide), fun h => (h (by omega)).elim⟩)
  ·
    have f5 := bq_f hq c5
    refine x_ib true Z dX4_kind_8 (by decide) ?_
    refine x_goto Z 13 dX4_kind_9 (by decide) ?_
    exact join13 _ (by first | exact ⟨fun _ => by omega, fun _ => rfl⟩ | exact ⟨fun h => absurd h (by decide), fun h => (h (by omega)).elim⟩)
abbrev rmc_X4_ask : Room := { frames := 3, cells := 0, slots := 0, locals := 66 }
set_option maxRecDepth 100000 in
theorem c_X4_ask {l : Launch} {s0 : State} {G : gK} {w : wd} (h0 : gS0 s0) (htr : l.stackTraces = false) {R : rA} {S : rM} {s : Int} {q : Int} (hS : rS G w R S) (his : inr s) (hiq : inr q) : gM l s0 G yX4_ask [Cond.code yX4_ask cX4_ask 3 (some .boolean)] rmc_X4_ask [rv R.1, iv s, iv q] w (fun v w' => ∃ (z : Bool) (T : Int), v = some (iv (b2 z)) ∧ rS G w' R (rT S T) ∧ fr (rP R S.1) w w' ∧ ((T = 1 ∧ ¬ ((0 ≤ s ∧ s < 256) ∧ (0 ≤ q ∧ q < 14))) ∨ (T = 0 ∧ ((0 ≤ s ∧ s < 256) ∧ (0 ≤ q ∧ q < 14)) ∧ (z = so s q)))) (noX) := by
  refine g_of h0 htr (by decide +kernel) (Nat.le_of_ble_eq_true rfl) ?_
  intro b Z0 E
  have Z : gAm b l s0 G cX4_ask RX4 3 rmc_X4_ask := Z0
  refine x_el (L' := [(0, rv R.1), (1, iv s), (2, iv q)]) rfl ?_
  obtain ⟨hr1, hr2, ⟨f3, hr3, hf3⟩, hr4, hr5, hr6⟩ := id hS
  have hf0 : fr (rP R S.1) w w := fr.rf
  have join20 : ∀ (c1 : Bool), (c1 = true ↔ ¬ ((0 ≤ s ∧ s < 256) ∧ (0 ≤ q ∧ q < 14))) → gX b s0 G (0) (0) 20 [(0, rv R.1), (1, iv s), (2, iv q)] [iv (b2 c1), rv R.1] (w) := by
    intro c1 hv
    have hc1 := hv
    refine x_callV (ci := 5) (C := RX4) (T := TX4) (N := 7) Z okX4_isThrown_ q1106 q1108 q15 rfl dX4_ask_20 (c_X4_isThrown_ h0 htr hS) hS.1 ⟨Nat.le_of_ble_eq_true rfl, Nat.le_of_ble_eq_true rfl, Nat.le_of_ble_eq_true rfl, Nat.le_of_ble_eq_true rfl⟩ rfl rfl (Nat.le_of_ble_eq_true rfl) (fun v9 w9 hR => ?_)
    obtain ⟨rfl, hS, hf9⟩ := hR
    have hf0 := hf0.tr hf9
    simp only [Option.toList_some, Option.toList_none, List.cons_append, List.nil_append]
    refine x_ifb_ne Z 39 dX4_ask_23 (by decide) (fun c23 => ?_) (fun c23 => ?_)
    ·
      have hbad := c23
      refine x_ib false Z dX4_ask_39 (by decide) ?_
      exact x_zret Z E (by first | exact ⟨_, _, rfl, hS, hf0, Or.inl ⟨by rw [hbad]; rfl, hc1.mp hbad⟩⟩ | (exact ⟨_, _, rfl, hS, hf0, Or.inr ⟨rfl, o1, by rw [c32]⟩⟩)) dX4_ask_40 (Nat.le_of_ble_eq_true rfl) (Nat.le_of_ble_eq_true rfl)
    ·
      have ea := c23
      have o1 := bq_n hc1 ea
      subst ea
      obtain ⟨hr1, hr2, ⟨f3, hr3, hf3⟩, hr4, hr5, hr6⟩ := id hS
      refine x_aload_n Z dX4_ask_26 rfl rfl ?_
      refine x_iload_n Z dX4_ask_27 rfl rfl ?_
      refine x_iload_n Z dX4_ask_28 rfl rfl ?_
      refine x_callV (ci := 5) (C := RX4) (T := TX4) (N := 7) Z okX4_isSo q1145 q1147 q17 rfl dX4_ask_29 (c_X4_isSo h0 htr hS (by omega) (by omega) (by omega) (by omega)) hS.1 ⟨Nat.le_of_ble_eq_true rfl, Nat.le_of_ble_eq_true rfl, Nat.le_of_ble_eq_true rfl, Nat.le_of_ble_eq_true rfl⟩ rfl rfl (Nat.le_of_ble_eq_true rfl) (fun v9 w9 hR => ?_)
      obtain ⟨rfl, e9⟩ := hR
      refine x_ew e9 ?_
      simp only [Option.toList_some, Option.toList_none, List.cons_append, List.nil_append]
      refine x_ifb_eq Z 39 dX4_ask_32 (by decide) (fun c32 => ?_) (fun c32 => ?_)
      ·
        refine x_ib false Z dX4_ask_39 (by decide) ?_
        exact x_zret Z E (by first | exact ⟨_, _, rfl, hS, hf0, Or.inl ⟨by rw [hbad]; rfl, hc1.mp hbad⟩⟩ | (exact ⟨_, _, rfl, hS, hf0, Or.inr ⟨rfl, o1, by rw [c32]⟩⟩)) dX4_ask_40 (Nat.le_of_ble_eq_true rfl) (Nat.le_of_ble_eq_true rfl)
      ·
        refine x_ib true Z dX4_ask_35 (by decide) ?_
        refine x_goto Z 40 dX4_ask_36 (by decide) ?_
        exact x_zret Z E (by first | exact ⟨_, _, rfl, hS, hf0, Or.inl ⟨by rw [hbad]; rfl, hc1.mp hbad⟩⟩ | (exact ⟨_, _, rfl, hS, hf0, Or.inr ⟨rfl, o1, by rw [c32]⟩⟩)) dX4_ask_40 (Nat.le_of_ble_eq_true rfl) (Nat.le_of_ble_eq_true rfl)
  refine x_aload_n Z dX4_ask_0 rfl rfl ?_
  refine x_iload_n Z dX4_ask_1 rfl rfl ?_
  refine x_callS Z okX4_isSign q1074 q1075 dX4_ask_2 (c_X4_isSign h0 htr (by assumption)) ⟨Nat.le_of_ble_eq_true rfl, Nat.le_of_ble_eq_true rfl, Nat.le_of_ble_eq_true rfl, Nat.le_of_ble_eq_true rfl⟩ rfl rfl (Nat.le_of_ble_eq_true rfl) (fun v9 w9 hR => ?_)
  obtain ⟨o9, rfl, e9, hq⟩ := hR
  refine x_ew e9 ?_
  simp only [Option.toList_some, Option.toList_none, List.cons_append, List.nil_append]
  refine x_ifb_eq Z 15 dX4_ask_5 (by decide) (fun c5 => ?_) (fun c5 => ?_)
  ·
    have f5 := bq_f hq c5
    refine x_ib true Z dX4_ask_15 (by decide) ?_
    refine x_goto Z 20 dX4_ask_16 (by decide) ?_
    exact join20 _ (by first | exact ⟨fun _ => by omega, fun _ => rfl⟩ | exact ⟨fun h => absurd h (by decide), fun h => (h (by omega)).elim⟩)
  ·
    have f5 := bq_t hq c5
    refine x_iload_n Z dX4_ask_8 rfl rfl ?_
    refine x_callS Z okX4_isQuestion q1142 q1143 dX4_ask_9 (c_X4_isQuestion h0 htr (by assumption)) ⟨Nat.le_of_ble_eq_true rfl, Nat.le_of_ble_eq_true rfl, Nat.le_of_ble_eq_true rfl, Nat.le_of_ble_eq_true rfl⟩ rfl rfl (Nat.le_of_ble_eq_true rfl) (fun v9 w9 hR => ?_)
    obtain ⟨o9, rfl, e9, hq⟩ := hR
    refine x_ew e9 ?_
    simp only [Option.toList_some, Option.toList_none, List.cons_append, List.nil_append]
    refine x_ifb_ne Z 19 dX4_ask_12 (by decide) (fun c12 => ?_) (fun c12 => ?_)
    ·
      have f12 := bq_t hq c12
      refine x_ib false Z dX4_ask_19 (by decide) ?_
      exact join20 _ (by first | exact ⟨fun _ => by omega, fun _ => rfl⟩ | exact ⟨fun h => absurd h (by decide), fun h => (h (by omega)).elim⟩)
    ·
      have f12 := bq_f hq c12
      refine x_ib true Z dX4_ask_15 (by decide) ?_
      refine x_goto Z 20 dX4_ask_16 (by decide) ?_
      exact join20 _ (by first | exact ⟨fun _ => by omega, fun _ => rfl⟩ | exact ⟨fun h => absurd h (by decide), fun h => (h (by omega)).elim⟩)
abbrev rmc_X4_all : Room := { frames := 3, cells := 0, slots := 0, locals := 66 }
set_option maxRecDepth 100000 in
theorem c_X4_all {l : Launch} {s0 : State} {G : gK} {w : wd} (h0 : gS0 s0) (htr : l.stackTraces = false) {R : rA} {S : rM} {s : Int} (hS : rS G w R S) (his : inr s) : gM l s0 G yX4_all [Cond.code yX4_all cX4_all 4 (some .int)] rmc_X4_all [rv R.1, iv s] w (fun v w' => ∃ (z : Int) (T : Int), v = some (iv z) ∧ rS G w' R (rT S T) ∧ fr (rP R S.1) w w' ∧ ((T = 1 ∧ ¬ (0 ≤ s ∧ s < 256)) ∨ (T = 0 ∧ (0 ≤ s ∧ s < 256) ∧ (z = msk (fun q => so s q) 14)))) (noX) := by
  refine g_of h0 htr (by decide +kernel) (Nat.le_of_ble_eq_true rfl) ?_
  intro b Z0 E
  have Z : gAm b l s0 G cX4_all RX4 4 rmc_X4_all := Z0
  refine x_el (L' := [(0, rv R.1), (1, iv s)]) rfl ?_
  obtain ⟨hr1, hr2, ⟨f3, hr3, hf3⟩, hr4, hr5, hr6⟩ := id hS
  have hf0 : fr (rP R S.1) w w := fr.rf
  have join13 : ∀ (c1 : Bool), (c1 = true ↔ ¬ (0 ≤ s ∧ s < 256)) → gX b s0 G (0) (0) 13 [(0, rv R.1), (1, iv s)] [iv (b2 c1), rv R.1] (w) := by
    intro c1 hv
    have hc1 := hv
    refine x_callV (ci := 5) (C := RX4) (T := TX4) (N := 7) Z okX4_isThrown_ q1106 q1108 q15 rfl dX4_all_13 (c_X4_isThrown_ h0 htr hS) hS.1 ⟨Nat.le_of_ble_eq_true rfl, Nat.le_of_ble_eq_true rfl, Nat.le_of_ble_eq_true rfl, Nat.le_of_ble_eq_true rfl⟩ rfl rfl (Nat.le_of_ble_eq_true rfl) (fun v9 w9 hR => ?_)
    obtain ⟨rfl, hS, hf9⟩ := hR
    have hf0 := hf0.tr hf9
    simp only [Option.toList_some, Option.toList_none, List.cons_append, List.nil_append]
    refine x_ifb_eq Z 21 dX4_all_16 (by decide) (fun c16 => ?_) (fun c16 => ?_)
    ·
      have ea := c16
      have o1 := bq_n hc1 ea
      subst ea
      obtain ⟨hr1, hr2, ⟨f3, hr3, hf3⟩, hr4, hr5, hr6⟩ := id hS
      refine x_iconst Z dX4_all_21 ?_
      refine x_istore_n (L' := [(2, _), (0, _), (1, _)]) Z dX4_all_22 rfl (Nat.le_of_ble_eq_true rfl) rfl ?_
      refine x_iconst Z dX4_all_23 ?_
      refine x_istore_n (L' := [(3, _), (2, _), (0, _), (1, _)]) Z dX4_all_24 rfl (Nat.le_of_ble_eq_true rfl) rfl ?_
      have loop25 : ∀ (fu : Nat) (i v : Int), 14 - i < (fu : Int) → (0 ≤ i ∧ i ≤ 14 ∧ inr v ∧ forI (mstep (fun q => so s q)) i 14 v = msk (fun q => so s q) 14) → gX b s0 G (0) (0) 25 [(3, iv i), (2, iv v), (0, rv R.1), (1, iv s)] [] (w9) := by
        intro fu; induction fu with
        | zero => intro i v hm hv; exact absurd hm (by omega)
        | succ fu ih25 =>
          intro i v hm hv
          obtain ⟨hi0, hin, hvr, hif⟩ := hv
          refine x_iload_n Z dX4_all_25 rfl rfl ?_
          refine x_bipush Z dX4_all_26 (by decide +kernel) ?_
          refine x_icmp_ge Z 56 dX4_all_28 (by decide) ⟨by omega, by omega⟩ ⟨by omega, by omega⟩ (fun c28 => ?_) (fun c28 => ?_)
          ·
            refine x_iload_n Z dX4_all_56 rfl rfl ?_
            exact x_iret Z E (⟨_, _, rfl, hS, hf0, Or.inr ⟨rfl, o1, by rw [← hif, forI_e (by omega)]⟩⟩) dX4_all_57 (Nat.le_of_ble_eq_true rfl) (Nat.le_of_ble_eq_true rfl)
          ·
            refine x_iload_n Z dX4_all_31 rfl rfl ?_
            refine x_aload_n Z dX4_all_32 rfl rfl ?_
            refine x_iload_n Z dX4_all_33 rfl rfl ?_
            refine x_iload_n Z dX4_all_34 rfl rfl ?_
            refine x_callV (ci := 5) (C := RX4) (T := TX4) (N := 7) Z okX4_isSo q1145 q1147 q17 rfl dX4_all_35 (c_X4_isSo h0 htr hS (by omega) (by omega) (by omega) (by omega)) hS.1 ⟨Nat.le_of_ble_eq_true rfl, Nat.le_of_ble_eq_true rfl, Nat.le_of_ble_eq_true rfl, Nat.le_of_ble_eq_true rfl⟩ rfl rfl (Nat.le_of_ble_eq_true rfl) (fun v9 w9 hR => ?_)
            obtain ⟨rfl, e9⟩ := hR
            refine x_ew e9 ?_
            simp only [Option.toList_some, Option.toList_none, List.cons_append, List.nil_append]
            refine x_ifb_eq Z 47 dX4_all_38 (by decide) (fun c38 => ?_) (fun c38 => ?_)
            ·
              refine x_iconst Z dX4_all_47 ?_
              refine x_ior Z dX4_all_48 ?_
              refine x_istore_n (L' := [(2, _), (3, _), (0, _), (1, _)]) Z dX4_all_49 rfl (Nat.le_of_ble_eq_true rfl) rfl ?_
              refine x_iinc (L' := [(3, _), (2, _), (0, _), (1, _)]) Z dX4_all_50 rfl (Nat.le_of_ble_eq_true rfl) rfl ?_
              refine x_goto Z 25 dX4_all_53 (by decide) ?_
              exact ih25 (i + 1) _ (by omega) ⟨by omega, by omega, bOr_in _ _, by rw [← hif, forI_s (i := i) (by omega)]; first | rw [mstep_t (P := fun q => so s q) c38] | rw [mstep_f (P := fun q => so s q) c38, bOr0 hvr]⟩
            ·
              refine x_iconst Z dX4_all_41 ?_
              refine x_iload_n Z dX4_all_42 rfl rfl ?_
              refine x_ishl Z dX4_all_43 ?_
              refine x_goto Z 48 dX4_all_44 (by decide) ?_
              refine x_ior Z dX4_all_48 ?_
              refine x_istore_n (L' := [(2, _), (3, _), (0, _), (1, _)]) Z dX4_all_49 rfl (Nat.le_of_ble_eq_true rfl) rfl ?_
              refine x_iinc (L' := [(3, _), (2, _), (0, _), (1, _)]) Z dX4_all_50 rfl (Nat.le_of_ble_eq_true rfl) rfl ?_
              refine x_goto Z 25 dX4_all_53 (by decide) ?_
              exact ih25 (i + 1) _ (by omega) ⟨by omega, by omega, bOr_in _ _, by rw [← hif, forI_s (i := i) (by omega)]; first | rw [mstep_t (P := fun q => so s q) c38] | rw [mstep_f (P := fun q => so s q) c38, bOr0 hvr]⟩
      exact loop25 20 0 0 (by omega) ⟨by omega, by omega, ⟨by decide, by decide⟩, rfl⟩
    ·
      have hbad := c16
      refine x_iconst Z dX4_all_19 ?_
      exact x_iret Z E (⟨_, _, rfl, hS, hf0, Or.inl ⟨by rw [hbad]; rfl, hc1.mp hbad⟩⟩) dX4_all_20 (Nat.le_of_ble_eq_true rfl) (Nat.le_of_ble_eq_true rfl)
  refine x_aload_n Z dX4_all_0 rfl rfl ?_
  refine x_iload_n Z dX4_all_1 rfl rfl ?_
  refine x_callS Z okX4_isSign q1074 q1075 dX4_all_2 (c_X4_isSign h0 htr (by assumption)) ⟨Nat.le_of_ble_eq_true rfl, Nat.le_of_ble_eq_true rfl, Nat.le_of_ble_eq_true rfl, Nat.le_of_ble_eq_true rfl⟩ rfl rfl (Nat.le_of_ble_eq_true rfl) (fun v9 w9 hR => ?_)
  obtain ⟨o9, rfl, e9, hq⟩ := hR
  refine x_ew e9 ?_
  simp only [Option.toList_some, Option.toList_none, List.cons_append, List.nil_append]
  refine x_ifb_ne Z 12 dX4_all_5 (by decide) (fun c5 => ?_) (fun c5 => ?_)
  ·
    have f5 := bq_t hq c5
    refine x_ib false Z dX4_all_12 (by decide) ?_
    exact join13 _ (by first | exact ⟨fun _ => by omega, fun _ => rfl⟩ | exact ⟨fun h => absurd h (by decide), fun h => (h (by omega)).elim⟩)
  ·
    have f5 := bq_f hq c5
    refine x_ib true Z dX4_all_8 (by decide) ?_
    refine x_goto Z 13 dX4_all_9 (by decide) ?_
    exact join13 _ (by first | exact ⟨fun _ => by omega, fun _ => rfl⟩ | exact ⟨fun h => absurd h (by decide), fun h => (h (by omega)).elim⟩)
abbrev rmc_X4_nth : Room := { frames := 2, cells := 0, slots := 0, locals := 43 }
set_option maxRecDepth 100000 in
theorem c_X4_nth {l : Launch} {s0 : State} {G : gK} {w : wd} (h0 : gS0 s0) (htr : l.stackTraces = false) {R : rA} {S : rM} {k1 : Int} {m : Int} (hS : rS G w R S) (hik1 : inr k1) (him : inr m) : gM l s0 G yX4_nth [Cond.code yX4_nth cX4_nth 5 (some .int)] rmc_X4_nth [rv R.1, iv k1, iv m] w (fun v w' => ∃ (z : Int) (T : Int), v = some (iv z) ∧ rS G w' R (rT S T) ∧ fr (rP R S.1) w w' ∧ ((T = 1 ∧ ¬ ((0 ≤ k1 ∧ k1 < 31) ∧ 0 ≤ m ∧ m ≤ 255)) ∨ (T = 0 ∧ ((0 ≤ k1 ∧ k1 < 31) ∧ 0 ≤ m ∧ m ≤ 255) ∧ (z = nthI k1 0 m)))) (noX) := by
  refine g_of h0 htr (by decide +kernel) (Nat.le_of_ble_eq_true rfl) ?_
  intro b Z0 E
  have Z : gAm b l s0 G cX4_nth RX4 5 rmc_X4_nth := Z0
  refine x_el (L' := [(0, rv R.1), (1, iv k1), (2, iv m)]) rfl ?_
  obtain ⟨hr1, hr2, ⟨f3, hr3, hf3⟩, hr4, hr5, hr6⟩ := id hS
  have hf0 : fr (rP R S.1) w w := fr.rf
  have join24 : ∀ (c1 : Bool), (c1 = true ↔ ¬ ((0 ≤ k1 ∧ k1 < 31) ∧ 0 ≤ m ∧ m ≤ 255)) → gX b s0 G (0) (0) 24 [(0, rv R.1), (1, iv k1), (2, iv m)] [iv (b2 c1), rv R.1] (w) := by
    intro c1 hv
    have hc1 := hv
    refine x_callV (ci := 5) (C := RX4) (T := TX4) (N := 7) Z okX4_isThrown_ q1106 q1108 q15 rfl dX4_nth_24 (c_X4_isThrown_ h0 htr hS) hS.1 ⟨Nat.le_of_ble_eq_true rfl, Nat.le_of_ble_eq_true rfl, Nat.le_of_ble_eq_true rfl, Nat.le_of_ble_eq_true rfl⟩ rfl rfl (Nat.le_of_ble_eq_true rfl) (fun v9 w9 hR => ?_)
    obtain ⟨rfl, hS, hf9⟩ := hR
    have hf0 := hf0.tr hf9
    simp only [Option.toList_some, Option.toList_none, List.cons_append, List.nil_append]
    refine x_ifb_eq Z 32 dX4_nth_27 (by decide) (fun c27 => ?_) (fun c27 => ?_)
    ·
      have ea := c27
      have o1 := bq_n hc1 ea
      subst ea
      obtain ⟨hr1, hr2, ⟨f3, hr3, hf3⟩, hr4, hr5, hr6⟩ := id hS
      refine x_iload_n Z dX4_nth_32 rfl rfl ?_
      refine x_istore_n (L' := [(3, _), (0, _), (1, _), (2, _)]) Z dX4_nth_33 rfl (Nat.le_of_ble_eq_true rfl) rfl ?_
      refine x_iconst Z dX4_nth_34 ?_
      refine x_istore (L' := [(4, _), (3, _), (0, _), (1, _), (2, _)]) Z dX4_nth_35 (Nat.le_of_ble_eq_true rfl) rfl ?_
      have loop37 : ∀ (fu : Nat) (i r : Int), 256 - i < (fu : Int) → (0 ≤ i ∧ i ≤ 256 ∧ 0 ≤ r ∧ r ≤ 255 ∧ nthI k1 i r = nthI k1 0 m) → gX b s0 G (0) (0) 37 [(4, iv i), (3, iv r), (0, rv R.1), (1, iv k1), (2, iv m)] [] (w9) := by
        intro fu; induction fu with
        | zero => intro i r hm hv; exact absurd hm (by omega)
        | succ fu ih37 =>
          intro i r hm hv
          obtain ⟨hi0, hin, hr0, hr9, hif⟩ := hv
          have hki := kin_in i
          refine x_iload Z dX4_nth_37 rfl ?_
          refine x_sipush Z dX4_nth_39 (by decide +kernel) ?_
          refine x_icmp_ge Z 75 dX4_nth_42 (by decide) ⟨by omega, by omega⟩ ⟨by omega, by omega⟩ (fun c42 => ?_) (fun c42 => ?_)
          ·
            refine x_iconst Z dX4_nth_75 ?_
            exact x_iret Z E (⟨_, _, rfl, hS, hf0, Or.inr ⟨rfl, o1, by rw [← hif, nthI_e (by omega)]⟩⟩) dX4_nth_76 (Nat.le_of_ble_eq_true rfl) (Nat.le_of_ble_eq_true rfl)
          ·
            refine x_aload_n Z dX4_nth_45 rfl rfl ?_
            refine x_getf (ci := 5) (j := 0) (C := RX4) (T := TX4) (N := 7) Z inX4g rfl (by decide) q1041 rfl dX4_nth_46 (by assumption) rfl ?_
            refine x_iload Z dX4_nth_49 rfl ?_
            refine x_iald Z dX4_nth_51 (by assumption) (by omega) (by omega) (by omega) ?_
            refine x_iload_n Z dX4_nth_52 rfl rfl ?_
            refine x_icmp_eq Z 59 dX4_nth_53 (by decide) ⟨by omega, by omega⟩ ⟨by omega, by omega⟩ (fun c53 => ?_) (fun c53 => ?_)
            ·
              refine x_iload_n Z dX4_nth_59 rfl rfl ?_
              refine x_if_ne Z 66 dX4_nth_60 (by decide) ⟨by omega, by omega⟩ (fun c60 => ?_) (fun c60 => ?_)
              ·
                refine x_iinc (L' := [(3, _), (4, _), (0, _), (1, _), (2, _)]) Z dX4_nth_66 rfl (Nat.le_of_ble_eq_true rfl) rfl ?_
                refine x_iinc (L' := [(4, _), (3, _), (0, _), (1, _), (2, _)]) Z dX4_nth_69 rfl (Nat.le_of_ble_eq_true rfl) rfl ?_
                refine x_goto Z 37 dX4_nth_72 (by decide) ?_
                first | exact ih37 (i + 1) r (by omega) ⟨by omega, by omega, by omega, by omega, by rw [← hif, nthI_n (by omega) c53]⟩ | exact ih37 (i + 1) (r + -1) (by omega) ⟨by omega, by omega, by omega, by omega, by rw [← hif, nthI_h (by omega) c53 (by omega)]; congr 1⟩
              ·
                refine x_iload Z dX4_nth_63 rfl ?_
                exact x_iret Z E (⟨_, _, rfl, hS, hf0, Or.inr ⟨rfl, o1, by rw [← hif, nthI_0 (by omega) c53 (by omega)]⟩⟩) dX4_nth_65 (Nat.le_of_ble_eq_true rfl) (Nat.le_of_ble_eq_true rfl)
            ·
              refine x_goto Z 69 dX4_nth_56 (by decide) ?_
              refine x_iinc (L' := [(4, _), (3, _), (0, _), (1, _), (2, _)]) Z dX4_nth_69 rfl (Nat.le_of_ble_eq_true rfl) rfl ?_
              refine x_goto Z 37 dX4_nth_72 (by decide) ?_
              first | exact ih37 (i + 1) r (by omega) ⟨by omega, by omega, by omega, by omega, by rw [← hif, nthI_n (by omega) c53]⟩ | exact ih37 (i + 1) (r + -1) (by omega) ⟨by omega, by omega, by omega, by omega, by rw [← hif, nthI_h (by omega) c53 (by omega)]; congr 1⟩
      exact loop37 300 0 m (by omega) ⟨by omega, by omega, by omega, by omega, rfl⟩
    ·
      have hbad := c27
      refine x_iconst Z dX4_nth_30 ?_
      exact x_iret Z E (⟨_, _, rfl, hS, hf0, Or.inl ⟨by rw [hbad]; rfl, hc1.mp hbad⟩⟩) dX4_nth_31 (Nat.le_of_ble_eq_true rfl) (Nat.le_of_ble_eq_true rfl)
  refine x_aload_n Z dX4_nth_0 rfl rfl ?_
  refine x_iload_n Z dX4_nth_1 rfl rfl ?_
  refine x_callS Z okX4_isKind q1164 q1165 dX4_nth_2 (c_X4_isKind h0 htr (by assumption)) ⟨Nat.le_of_ble_eq_true rfl, Nat.le_of_ble_eq_true rfl, Nat.le_of_ble_eq_true rfl, Nat.le_of_ble_eq_true rfl⟩ rfl rfl (Nat.le_of_ble_eq_true rfl) (fun v9 w9 hR => ?_)
  obtain ⟨o9, rfl, e9, hq⟩ := hR
  refine x_ew e9 ?_
  simp only [Option.toList_some, Option.toList_none, List.cons_append, List.nil_append]
  refine x_ifb_eq Z 19 dX4_nth_5 (by decide) (fun c5 => ?_) (fun c5 => ?_)
  ·
    have f5 := bq_f hq c5
    refine x_ib true Z dX4_nth_19 (by decide) ?_
    refine x_goto Z 24 dX4_nth_20 (by decide) ?_
    exact join24 _ (by first | exact ⟨fun _ => by omega, fun _ => rfl⟩ | exact ⟨fun h => absurd h (by decide), fun h => (h (by omega)).elim⟩)
  ·
    have f5 := bq_t hq c5
    refine x_iload_n Z dX4_nth_8 rfl rfl ?_
    refine x_if_lt Z 19 dX4_nth_9 (by decide) ⟨by omega, by omega⟩ (fun c9 => ?_) (fun c9 => ?_)
    ·
      refine x_ib true Z dX4_nth_19 (by decide) ?_
      refine x_goto Z 24 dX4_nth_20 (by decide) ?_
      exact join24 _ (by first | exact ⟨fun _ => by omega, fun _ => rfl⟩ | exact ⟨fun h => absurd h (by decide), fun h => (h (by omega)).elim⟩)
    ·
      refine x_iload_n Z dX4_nth_12 rfl rfl ?_
      refine x_sipush Z dX4_nth_13 (by decide +kernel) ?_
      refine x_icmp_le Z 23 dX4_nth_16 (by decide) ⟨by omega, by omega⟩ ⟨by omega, by omega⟩ (fun c16 => ?_) (fun c16 => ?_)
      ·
        refine x_ib false Z dX4_nth_23 (by decide) ?_
        exact join24 _ (by first | exact ⟨fun _ => by omega, fun _ => rfl⟩ | exact ⟨fun h => absurd h (by decide), fun h => (h (by omega)).elim⟩)
      ·
        refine x_ib true Z dX4_nth_19 (by decide) ?_
        refine x_goto Z 24 dX4_nth_20 (by decide) ?_
        exact join24 _ (by first | exact ⟨fun _ => by omega, fun _ => rfl⟩ | exact ⟨fun h => absurd h (by decide), fun h => (h (by omega)).elim⟩)
abbrev rmc_X4_next : Room := { frames := 3, cells := 0, slots := 0, locals := 66 }
set_option maxRecDepth 100000 in
theorem c_X4_next {l : Launch} {s0 : State} {G : gK} {w : wd} (h0 : gS0 s0) (htr : l.stackTraces = false) {R : rA} {S : rM} {q : Int} {f : Int} {o : Bool} (hS : rS G w R S) (hiq : inr q) (hif : inr f) : gM l s0 G yX4_next [Cond.code yX4_next cX4_next 5 (some .int)] rmc_X4_next [rv R.1, iv q, iv f, iv (b2 o)] w (fun v w' => ∃ (z : Int) (T : Int), v = some (iv z) ∧ rS G w' R (rT S T) ∧ fr (rP R S.1) w w' ∧ ((T = 1 ∧ ¬ ((0 ≤ q ∧ q < 14) ∧ 0 ≤ f ∧ f < 256)) ∨ (T = 0 ∧ ((0 ≤ q ∧ q < 14) ∧ 0 ≤ f ∧ f < 256) ∧ (z = (if findI (fun c => so c q == o) f 256 < 256 then findI (fun c => so c q == o) f 256 else -1))))) (noX) := by
  refine g_of h0 htr (by decide +kernel) (Nat.le_of_ble_eq_true rfl) ?_
  intro b Z0 E
  have Z : gAm b l s0 G cX4_next RX4 5 rmc_X4_next := Z0
  refine x_el (L' := [(0, rv R.1), (1, iv q), (2, iv f), (3, iv (b2 o))]) rfl ?_
  obtain ⟨hr1, hr2, ⟨f3, hr3, hf3⟩, hr4, hr5, hr6⟩ := id hS
  have hf0 : fr (rP R S.1) w w := fr.rf
  have join20 : ∀ (c1 : Bool), (c1 = true ↔ ¬ ((0 ≤ q ∧ q < 14) ∧ 0 ≤ f ∧ f < 256)) → gX b s0 G (0) (0) 20 [(0, rv R.1), (1, iv q), (2, iv f), (3, iv (b2 o))] [iv (b2 c1), rv R.1] (w) := by
    intro c1 hv
    have hc1 := hv
    refine x_callV (ci := 5) (C := RX4) (T := TX4) (N := 7) Z okX4_isThrown_ q1106 q1108 q15 rfl dX4_next_20 (c_X4_isThrown_ h0 htr hS) hS.1 ⟨Nat.le_of_ble_eq_true rfl, Nat.le_of_ble_eq_true rfl, Nat.le_of_ble_eq_true rfl, Nat.le_of_ble_eq_true rfl⟩ rfl rfl (Nat.le_of_ble_eq_true rfl) (fun v9 w9 hR => ?_)
    obtain ⟨rfl, hS, hf9⟩ := hR
    have hf0 := hf0.tr hf9
    simp only [Option.toList_some, Option.toList_none, List.cons_append, List.nil_append]
    refine x_ifb_eq Z 28 dX4_next_23 (by decide) (fun c23 => ?_) (fun c23 => ?_)
    ·
      have ea := c23
      have o1 := bq_n hc1 ea
      subst ea
      obtain ⟨hr1, hr2, ⟨f3, hr3, hf3⟩, hr4, hr5, hr6⟩ := id hS
      refine x_iload_n Z dX4_next_28 rfl rfl ?_
      refine x_istore (L' := [(4, _), (0, _), (1, _), (2, _), (3, _)]) Z dX4_next_29 (Nat.le_of_ble_eq_true rfl) rfl ?_
      have loop31 : ∀ (fu : Nat) (i : Int), 256 - i < (fu : Int) → (f ≤ i ∧ i ≤ 256 ∧ findI (fun c => so c q == o) i 256 = findI (fun c => so c q == o) f 256) → gX b s0 G (0) (0) 31 [(4, iv i), (0, rv R.1), (1, iv q), (2, iv f), (3, iv (b2 o))] [] (w9) := by
        intro fu; induction fu with
        | zero => intro i hm hv; exact absurd hm (by omega)
        | succ fu ih31 =>
          intro i hm hv
          obtain ⟨hi0, hin, hif⟩ := hv
          refine x_iload Z dX4_next_31 rfl ?_
          refine x_sipush Z dX4_next_33 (by decide +kernel) ?_
          refine x_icmp_ge Z 59 dX4_next_36 (by decide) ⟨by omega, by omega⟩ ⟨by omega, by omega⟩ (fun c36 => ?_) (fun c36 => ?_)
          ·
            refine x_iconst Z dX4_next_59 ?_
            exact x_iret Z E (⟨_, _, rfl, hS, hf0, Or.inr ⟨rfl, o1, by rw [← hif, findI_e (by omega), if_neg (by omega)]⟩⟩) dX4_next_60 (Nat.le_of_ble_eq_true rfl) (Nat.le_of_ble_eq_true rfl)
          ·
            refine x_aload_n Z dX4_next_39 rfl rfl ?_
            refine x_iload Z dX4_next_40 rfl ?_
            refine x_iload_n Z dX4_next_42 rfl rfl ?_
            refine x_callV (ci := 5) (C := RX4) (T := TX4) (N := 7) Z okX4_isSo q1145 q1147 q17 rfl dX4_next_43 (c_X4_isSo h0 htr hS (by omega) (by omega) (by omega) (by omega)) hS.1 ⟨Nat.le_of_ble_eq_true rfl, Nat.le_of_ble_eq_true rfl, Nat.le_of_ble_eq_true rfl, Nat.le_of_ble_eq_true rfl⟩ rfl rfl (Nat.le_of_ble_eq_true rfl) (fun v9 w9 hR => ?_)
            obtain ⟨rfl, e9⟩ := hR
            refine x_ew e9 ?_
            simp only [Option.toList_some, Option.toList_none, List.cons_append, List.nil_append]
            refine x_iload_n Z dX4_next_46 rfl rfl ?_
            refine x_icmpb_ne Z 53 dX4_next_47 (by decide) (fun c47 => ?_) (fun c47 => ?_)
            ·
              refine x_iinc (L' := [(4, _), (0, _), (1, _), (2, _), (3, _)]) Z dX4_next_53 rfl (Nat.le_of_ble_eq_true rfl) rfl ?_
              refine x_goto Z 31 dX4_next_56 (by decide) ?_
              exact ih31 (i + 1) (by omega) ⟨by omega, by omega, by rw [← hif]; exact (findI_m (by omega) (by simpa using c47)).symm⟩
            ·
              refine x_iload Z dX4_next_50 rfl ?_
              exact x_iret Z E (⟨_, _, rfl, hS, hf0, Or.inr ⟨rfl, o1, by rw [← hif, findI_h (by simpa using c47), if_pos (by omega)]⟩⟩) dX4_next_52 (Nat.le_of_ble_eq_true rfl) (Nat.le_of_ble_eq_true rfl)
      exact loop31 300 f (by omega) ⟨by omega, by omega, rfl⟩
    ·
      have hbad := c23
      refine x_iconst Z dX4_next_26 ?_
      exact x_iret Z E (⟨_, _, rfl, hS, hf0, Or.inl ⟨by rw [hbad]; rfl, hc1.mp hbad⟩⟩) dX4_next_27 (Nat.le_of_ble_eq_true rfl) (Nat.le_of_ble_eq_true rfl)
  refine x_aload_n Z dX4_next_0 rfl rfl ?_
  refine x_iload_n Z dX4_next_1 rfl rfl ?_
  refine x_callS Z okX4_isQuestion q1142 q1143 dX4_next_2 (c_X4_isQuestion h0 htr (by assumption)) ⟨Nat.le_of_ble_eq_true rfl, Nat.le_of_ble_eq_true rfl, Nat.le_of_ble_eq_true rfl, Nat.le_of_ble_eq_true rfl⟩ rfl rfl (Nat.le_of_ble_eq_true rfl) (fun v9 w9 hR => ?_)
  obtain ⟨o9, rfl, e9, hq⟩ := hR
  refine x_ew e9 ?_
  simp only [Option.toList_some, Option.toList_none, List.cons_append, List.nil_append]
  refine x_ifb_eq Z 15 dX4_next_5 (by decide) (fun c5 => ?_) (fun c5 => ?_)
  ·
    have f5 := bq_f hq c5
    refine x_ib true Z dX4_next_15 (by decide) ?_
    refine x_goto Z 20 dX4_next_16 (by decide) ?_
    exact join20 _ (by first | exact ⟨fun _ => by omega, fun _ => rfl⟩ | exact ⟨fun h => absurd h (by decide), fun h => (h (by omega)).elim⟩)
  ·
    have f5 := bq_t hq c5
    refine x_iload_n Z dX4_next_8 rfl rfl ?_
    refine x_callS Z okX4_isSign q1074 q1075 dX4_next_9 (c_X4_isSign h0 htr (by assumption)) ⟨Nat.le_of_ble_eq_true rfl, Nat.le_of_ble_eq_true rfl, Nat.le_of_ble_eq_true rfl, Nat.le_of_ble_eq_true rfl⟩ rfl rfl (Nat.le_of_ble_eq_true rfl) (fun v9 w9 hR => ?_)
    obtain ⟨o9, rfl, e9, hq⟩ := hR
    refine x_ew e9 ?_
    simp only [Option.toList_some, Option.toList_none, List.cons_append, List.nil_append]
    refine x_ifb_ne Z 19 dX4_next_12 (by decide) (fun c12 => ?_) (fun c12 => ?_)
    ·
      have f12 := bq_t hq c12
      refine x_ib false Z dX4_next_19 (by decide) ?_
      exact join20 _ (by first | exact ⟨fun _ => by omega, fun _ => rfl⟩ | exact ⟨fun h => absurd h (by decide), fun h => (h (by omega)).elim⟩)
    ·
      have f12 := bq_f hq c12
      refine x_ib true Z dX4_next_15 (by decide) ?_
      refine x_goto Z 20 dX4_next_16 (by decide) ?_
      exact join20 _ (by first | exact ⟨fun _ => by omega, fun _ => rfl⟩ | exact ⟨fun h => absurd h (by decide), fun h => (h (by omega)).elim⟩)
abbrev rmc_X4_run : Room := { frames := 3, cells := 0, slots := 0, locals := 66 }
set_option maxRecDepth 100000 in
theorem c_X4_run {l : Launch} {s0 : State} {G : gK} {w : wd} (h0 : gS0 s0) (htr : l.stackTraces = false) {R : rA} {S : rM} {q : Int} {f : Int} (hS : rS G w R S) (hiq : inr q) (hif : inr f) : gM l s0 G yX4_run [Cond.code yX4_run cX4_run 4 (some .int)] rmc_X4_run [rv R.1, iv q, iv f] w (fun v w' => ∃ (z : Int) (T : Int), v = some (iv z) ∧ rS G w' R (rT S T) ∧ fr (rP R S.1) w w' ∧ ((T = 1 ∧ ¬ ((0 ≤ q ∧ q < 14) ∧ 0 ≤ f ∧ f < 256)) ∨ (T = 0 ∧ ((0 ≤ q ∧ q < 14) ∧ 0 ≤ f ∧ f < 256) ∧ (z = findI (fun c => so c q != so f q) f 256 - f)))) (noX) := by
  refine g_of h0 htr (by decide +kernel) (Nat.le_of_ble_eq_true rfl) ?_
  intro b Z0 E
  have Z : gAm b l s0 G cX4_run RX4 4 rmc_X4_run := Z0
  refine x_el (L' := [(0, rv R.1), (1, iv q), (2, iv f)]) rfl ?_
  obtain ⟨hr1, hr2, ⟨f3, hr3, hf3⟩, hr4, hr5, hr6⟩ := id hS
  have hf0 : fr (rP R S.1) w w := fr.rf
  have join20 : ∀ (c1 : Bool), (c1 = true ↔ ¬ ((0 ≤ q ∧ q < 14) ∧ 0 ≤ f ∧ f < 256)) → gX b s0 G (0) (0) 20 [(0, rv R.1), (1, iv q), (2, iv f)] [iv (b2 c1), rv R.1] (w) := by
    intro c1 hv
    have hc1 := hv
    refine x_callV (ci := 5) (C := RX4) (T := TX4) (N := 7) Z okX4_isThrown_ q1106 q1108 q15 rfl dX4_run_20 (c_X4_isThrown_ h0 htr hS) hS.1 ⟨Nat.le_of_ble_eq_true rfl, Nat.le_of_ble_eq_true rfl, Nat.le_of_ble_eq_true rfl, Nat.le_of_ble_eq_true rfl⟩ rfl rfl (Nat.le_of_ble_eq_true rfl) (fun v9 w9 hR => ?_)
    obtain ⟨rfl, hS, hf9⟩ := hR
    have hf0 := hf0.tr hf9
    simp only [Option.toList_some, Option.toList_none, List.cons_append, List.nil_append]
    refine x_ifb_eq Z 28 dX4_run_23 (by decide) (fun c23 => ?_) (fun c23 => ?_)
    ·
      have ea := c23
      have o1 := bq_n hc1 ea
      subst ea
      obtain ⟨hr1, hr2, ⟨f3, hr3, hf3⟩, hr4, hr5, hr6⟩ := id hS
      refine x_iload_n Z dX4_run_28 rfl rfl ?_
      refine x_istore_n (L' := [(3, _), (0, _), (1, _), (2, _)]) Z dX4_run_29 rfl (Nat.le_of_ble_eq_true rfl) rfl ?_
      have loop30 : ∀ (fu : Nat) (i : Int), 256 - i < (fu : Int) → (f ≤ i ∧ i ≤ 256 ∧ findI (fun c => so c q != so f q) i 256 = findI (fun c => so c q != so f q) f 256) → gX b s0 G (0) (0) 30 [(3, iv i), (0, rv R.1), (1, iv q), (2, iv f)] [] (w9) := by
        intro fu; induction fu with
        | zero => intro i hm hv; exact absurd hm (by omega)
        | succ fu ih30 =>
          intro i hm hv
          obtain ⟨hi0, hin, hif⟩ := hv
          refine x_iload_n Z dX4_run_30 rfl rfl ?_
          refine x_sipush Z dX4_run_31 (by decide +kernel) ?_
          refine x_icmp_ge Z 58 dX4_run_34 (by decide) ⟨by omega, by omega⟩ ⟨by omega, by omega⟩ (fun c34 => ?_) (fun c34 => ?_)
          ·
            refine x_iload_n Z dX4_run_58 rfl rfl ?_
            refine x_iload_n Z dX4_run_59 rfl rfl ?_
            refine x_isub Z dX4_run_60 ?_
            exact x_iret Z E (⟨_, _, rfl, hS, hf0, Or.inr ⟨rfl, o1, by rw [← hif]; first | rw [findI_e (by omega)] | rw [findI_h (by simpa using c49)]⟩⟩) dX4_run_61 (Nat.le_of_ble_eq_true rfl) (Nat.le_of_ble_eq_true rfl)
          ·
            refine x_aload_n Z dX4_run_37 rfl rfl ?_
            refine x_iload_n Z dX4_run_38 rfl rfl ?_
            refine x_iload_n Z dX4_run_39 rfl rfl ?_
            refine x_callV (ci := 5) (C := RX4) (T := TX4) (N := 7) Z okX4_isSo q1145 q1147 q17 rfl dX4_run_40 (c_X4_isSo h0 htr hS (by omega) (by omega) (by omega) (by omega)) hS.1 ⟨Nat.le_of_ble_eq_true rfl, Nat.le_of_ble_eq_true rfl, Nat.le_of_ble_eq_true rfl, Nat.le_of_ble_eq_true rfl⟩ rfl rfl (Nat.le_of_ble_eq_true rfl) (fun v9 w9 hR => ?_)
            obtain ⟨rfl, e9⟩ := hR
            refine x_ew e9 ?_
            simp only [Option.toList_some, Option.toList_none, List.cons_append, List.nil_append]
            refine x_aload_n Z dX4_run_43 rfl rfl ?_
            refine x_iload_n Z dX4_run_44 rfl rfl ?_
            refine x_iload_n Z dX4_run_45 rfl rfl ?_
            refine x_callV (ci := 5) (C := RX4) (T := TX4) (N := 7) Z okX4_isSo q1145 q1147 q17 rfl dX4_run_46 (c_X4_isSo h0 htr hS (by omega) (by omega) (by omega) (by omega)) hS.1 ⟨Nat.le_of_ble_eq_true rfl, Nat.le_of_ble_eq_true rfl, Nat.le_of_ble_eq_true rfl, Nat.le_of_ble_eq_true rfl⟩ rfl rfl (Nat.le_of_ble_eq_true rfl) (fun v9 w9 hR => ?_)
            obtain ⟨rfl, e9⟩ := hR
            refine x_ew e9 ?_
            simp only [Option.toList_some, Option.toList_none, List.cons_append, List.nil_append]
            refine x_icmpb_ne Z 58 dX4_run_49 (by decide) (fun c49 => ?_) (fun c49 => ?_)
            ·
              refine x_iload_n Z dX4_run_58 rfl rfl ?_
              refine x_iload_n Z dX4_run_59 rfl rfl ?_
              refine x_isub Z dX4_run_60 ?_
              exact x_iret Z E (⟨_, _, rfl, hS, hf0, Or.inr ⟨rfl, o1, by rw [← hif]; first | rw [findI_e (by omega)] | rw [findI_h (by simpa using c49)]⟩⟩) dX4_run_61 (Nat.le_of_ble_eq_true rfl) (Nat.le_of_ble_eq_true rfl)
            ·
              refine x_iinc (L' := [(3, _), (0, _), (1, _), (2, _)]) Z dX4_run_52 rfl (Nat.le_of_ble_eq_true rfl) rfl ?_
              refine x_goto Z 30 dX4_run_55 (by decide) ?_
              exact ih30 (i + 1) (by omega) ⟨by omega, by omega, by rw [← hif]; exact (findI_m (by omega) (by simpa using c49)).symm⟩
      exact loop30 300 f (by omega) ⟨by omega, by omega, rfl⟩
    ·
      have hbad := c23
      refine x_iconst Z dX4_run_26 ?_
      exact x_iret Z E (⟨_, _, rfl, hS, hf0, Or.inl ⟨by rw [hbad]; rfl, hc1.mp hbad⟩⟩) dX4_run_27 (Nat.le_of_ble_eq_true rfl) (Nat.le_of_ble_eq_true rfl)
  refine x_aload_n Z dX4_run_0 rfl rfl ?_
  refine x_iload_n Z dX4_run_1 rfl rfl ?_
  refine x_callS Z okX4_isQuestion q1142 q1143 dX4_run_2 (c_X4_isQuestion h0 htr (by assumption)) ⟨Nat.le_of_ble_eq_true rfl, Nat.le_of_ble_eq_true rfl, Nat.le_of_ble_eq_true rfl, Nat.le_of_ble_eq_true rfl⟩ rfl rfl (Nat.le_of_ble_eq_true rfl) (fun v9 w9 hR => ?_)
  obtain ⟨o9, rfl, e9, hq⟩ := hR
  refine x_ew e9 ?_
  simp only [Option.toList_some, Option.toList_none, List.cons_append, List.nil_append]
  refine x_ifb_eq Z 15 dX4_run_5 (by decide) (fun c5 => ?_) (fun c5 => ?_)
  ·
    have f5 := bq_f hq c5
    refine x_ib true Z dX4_run_15 (by decide) ?_
    refine x_goto Z 20 dX4_run_16 (by decide) ?_
    exact join20 _ (by first | exact ⟨fun _ => by omega, fun _ => rfl⟩ | exact ⟨fun h => absurd h (by decide), fun h => (h (by omega)).elim⟩)
  ·
    have f5 := bq_t hq c5
    refine x_iload_n Z dX4_run_8 rfl rfl ?_
    refine x_callS Z okX4_isSign q1074 q1075 dX4_run_9 (c_X4_isSign h0 htr (by assumption)) ⟨Nat.le_of_ble_eq_true rfl, Nat.le_of_ble_eq_true rfl, Nat.le_of_ble_eq_true rfl, Nat.le_of_ble_eq_true rfl⟩ rfl rfl (Nat.le_of_ble_eq_true rfl) (fun v9 w9 hR => ?_)
    obtain ⟨o9, rfl, e9, hq⟩ := hR
    refine x_ew e9 ?_
    simp only [Option.toList_some, Option.toList_none, List.cons_append, List.nil_append]
    refine x_ifb_ne Z 19 dX4_run_12 (by decide) (fun c12 => ?_) (fun c12 => ?_)
    ·
      have f12 := bq_t hq c12
      refine x_ib false Z dX4_run_19 (by decide) ?_
      exact join20 _ (by first | exact ⟨fun _ => by omega, fun _ => rfl⟩ | exact ⟨fun h => absurd h (by decide), fun h => (h (by omega)).elim⟩)
    ·
      have f12 := bq_f hq c12
      refine x_ib true Z dX4_run_15 (by decide) ?_
      refine x_goto Z 20 dX4_run_16 (by decide) ?_
      exact join20 _ (by first | exact ⟨fun _ => by omega, fun _ => rfl⟩ | exact ⟨fun h => absurd h (by decide), fun h => (h (by omega)).elim⟩)
abbrev rmc_X4_ofKind : Room := { frames := 2, cells := 0, slots := 0, locals := 43 }
set_option maxRecDepth 100000 in
theorem c_X4_ofKind {l : Launch} {s0 : State} {G : gK} {w : wd} (h0 : gS0 s0) (htr : l.stackTraces = false) {R : rA} {S : rM} {k1 : Int} {f : Int} {t : Int} (hS : rS G w R S) (hik1 : inr k1) (hif : inr f) (hit : inr t) : gM l s0 G yX4_ofKind [Cond.code yX4_ofKind cX4_ofKind 6 (some .int)] rmc_X4_ofKind [rv R.1, iv k1, iv f, iv t] w (fun v w' => ∃ (z : Int) (T : Int), v = some (iv z) ∧ rS G w' R (rT S T) ∧ fr (rP R S.1) w w' ∧ ((T = 1 ∧ ¬ ((0 ≤ k1 ∧ k1 < 31) ∧ 0 ≤ f ∧ f < 256 ∧ 0 ≤ t ∧ t < 256 ∧ f ≤ t)) ∨ (T = 0 ∧ ((0 ≤ k1 ∧ k1 < 31) ∧ 0 ≤ f ∧ f < 256 ∧ 0 ≤ t ∧ t < 256 ∧ f ≤ t) ∧ (z = forI (cst (fun c => decide (kin c = k1))) f (t + 1) 0)))) (noX) := by
  refine g_of h0 htr (by decide +kernel) (Nat.le_of_ble_eq_true rfl) ?_
  intro b Z0 E
  have Z : gAm b l s0 G cX4_ofKind RX4 6 rmc_X4_ofKind := Z0
  refine x_el (L' := [(0, rv R.1), (1, iv k1), (2, iv f), (3, iv t)]) rfl ?_
  obtain ⟨hr1, hr2, ⟨f3, hr3, hf3⟩, hr4, hr5, hr6⟩ := id hS
  have hf0 : fr (rP R S.1) w w := fr.rf
  have join21 : ∀ (c1 : Bool), (c1 = true ↔ ¬ ((0 ≤ k1 ∧ k1 < 31) ∧ 0 ≤ f ∧ f < 256 ∧ 0 ≤ t ∧ t < 256 ∧ f ≤ t)) → gX b s0 G (0) (0) 21 [(0, rv R.1), (1, iv k1), (2, iv f), (3, iv t)] [iv (b2 c1), rv R.1] (w) := by
    intro c1 hv
    have hc1 := hv
    refine x_callV (ci := 5) (C := RX4) (T := TX4) (N := 7) Z okX4_isThrown_ q1106 q1108 q15 rfl dX4_ofKind_21 (c_X4_isThrown_ h0 htr hS) hS.1 ⟨Nat.le_of_ble_eq_true rfl, Nat.le_of_ble_eq_true rfl, Nat.le_of_ble_eq_true rfl, Nat.le_of_ble_eq_true rfl⟩ rfl rfl (Nat.le_of_ble_eq_true rfl) (fun v9 w9 hR => ?_)
    obtain ⟨rfl, hS, hf9⟩ := hR
    have hf0 := hf0.tr hf9
    simp only [Option.toList_some, Option.toList_none, List.cons_append, List.nil_append]
    refine x_ifb_eq Z 29 dX4_ofKind_24 (by decide) (fun c24 => ?_) (fun c24 => ?_)
    ·
      have ea := c24
      have o1 := bq_n hc1 ea
      subst ea
      obtain ⟨hr1, hr2, ⟨f3, hr3, hf3⟩, hr4, hr5, hr6⟩ := id hS
      refine x_iconst Z dX4_ofKind_29 ?_
      refine x_istore (L' := [(4, _), (0, _), (1, _), (2, _), (3, _)]) Z dX4_ofKind_30 (Nat.le_of_ble_eq_true rfl) rfl ?_
      refine x_iload_n Z dX4_ofKind_32 rfl rfl ?_
      refine x_istore (L' := [(5, _), (4, _), (0, _), (1, _), (2, _), (3, _)]) Z dX4_ofKind_33 (Nat.le_of_ble_eq_true rfl) rfl ?_
      have loop35 : ∀ (fu : Nat) (i v : Int), (t + 1) - i < (fu : Int) → (f ≤ i ∧ i ≤ (t + 1) ∧ forI (cst (fun c => decide (kin c = k1))) i ((t + 1)) v = forI (cst (fun c => decide (kin c = k1))) f ((t + 1)) 0) → gX b s0 G (0) (0) 35 [(5, iv i), (4, iv v), (0, rv R.1), (1, iv k1), (2, iv f), (3, iv t)] [] (w9) := by
        intro fu; induction fu with
        | zero => intro i v hm hv; exact absurd hm (by omega)
        | succ fu ih35 =>
          intro i v hm hv
          obtain ⟨hi0, hin, hif⟩ := hv
          have hki := kin_in i
          refine x_iload Z dX4_ofKind_35 rfl ?_
          refine x_iload_n Z dX4_ofKind_37 rfl rfl ?_
          refine x_icmp_gt Z 68 dX4_ofKind_38 (by decide) ⟨by omega, by omega⟩ ⟨by omega, by omega⟩ (fun c38 => ?_) (fun c38 => ?_)
          ·
            refine x_iload Z dX4_ofKind_68 rfl ?_
            exact x_iret Z E (by first | exact ⟨_, _, rfl, hS, hf0, Or.inl ⟨by rw [hbad]; rfl, hc1.mp hbad⟩⟩ | exact ⟨_, _, rfl, hS, hf0, Or.inr ⟨rfl, o1, by rw [← hif, forI_e (by omega)]⟩⟩) dX4_ofKind_70 (Nat.le_of_ble_eq_true rfl) (Nat.le_of_ble_eq_true rfl)
          ·
            refine x_iload Z dX4_ofKind_41 rfl ?_
            refine x_aload_n Z dX4_ofKind_43 rfl rfl ?_
            refine x_getf (ci := 5) (j := 0) (C := RX4) (T := TX4) (N := 7) Z inX4g rfl (by decide) q1041 rfl dX4_ofKind_44 (by assumption) rfl ?_
            refine x_iload Z dX4_ofKind_47 rfl ?_
            refine x_iald Z dX4_ofKind_49 (by assumption) (by omega) (by omega) (by omega) ?_
            refine x_iload_n Z dX4_ofKind_50 rfl rfl ?_
            refine x_icmp_ne Z 58 dX4_ofKind_51 (by decide) ⟨by omega, by omega⟩ ⟨by omega, by omega⟩ (fun c51 => ?_) (fun c51 => ?_)
            ·
              refine x_ib false Z dX4_ofKind_58 (by decide) ?_
              refine x_iadd Z dX4_ofKind_59 ?_
              refine x_istore (L' := [(4, _), (5, _), (0, _), (1, _), (2, _), (3, _)]) Z dX4_ofKind_60 (Nat.le_of_ble_eq_true rfl) rfl ?_
              refine x_iinc (L' := [(5, _), (4, _), (0, _), (1, _), (2, _), (3, _)]) Z dX4_ofKind_62 rfl (Nat.le_of_ble_eq_true rfl) rfl ?_
              refine x_goto Z 35 dX4_ofKind_65 (by decide) ?_
              first | exact ih35 (i + 1) (v + 1) (by omega) ⟨by omega, by omega, by rw [← hif, forI_s (i := i) (by omega), cst_t (P := fun c => decide (kin c = k1)) (by first | exact decide_eq_true c51 | exact decide_eq_false c51)]⟩ | exact ih35 (i + 1) (v + 0) (by omega) ⟨by omega, by omega, by rw [← hif, forI_s (i := i) (by omega), cst_f (P := fun c => decide (kin c = k1)) (by first | exact decide_eq_true c51 | exact decide_eq_false c51), Int.add_zero]⟩
            ·
              refine x_ib true Z dX4_ofKind_54 (by decide) ?_
              refine x_goto Z 59 dX4_ofKind_55 (by decide) ?_
              refine x_iadd Z dX4_ofKind_59 ?_
              refine x_istore (L' := [(4, _), (5, _), (0, _), (1, _), (2, _), (3, _)]) Z dX4_ofKind_60 (Nat.le_of_ble_eq_true rfl) rfl ?_
              refine x_iinc (L' := [(5, _), (4, _), (0, _), (1, _), (2, _), (3, _)]) Z dX4_ofKind_62 rfl (Nat.le_of_ble_eq_true rfl) rfl ?_
              refine x_goto Z 35 dX4_ofKind_65 (by decide) ?_
              first | exact ih35 (i + 1) (v + 1) (by omega) ⟨by omega, by omega, by rw [← hif, forI_s (i := i) (by omega), cst_t (P := fun c => decide (kin c = k1)) (by first | exact decide_eq_true c51 | exact decide_eq_false c51)]⟩ | exact ih35 (i + 1) (v + 0) (by omega) ⟨by omega, by omega, by rw [← hif, forI_s (i := i) (by omega), cst_f (P := fun c => decide (kin c = k1)) (by first | exact decide_eq_true c51 | exact decide_eq_false c51), Int.add_zero]⟩
      exact loop35 300 f 0 (by omega) ⟨by omega, by omega, rfl⟩
    ·
      have hbad := c24
      refine x_iconst Z dX4_ofKind_27 ?_
      exact x_iret Z E (by first | exact ⟨_, _, rfl, hS, hf0, Or.inl ⟨by rw [hbad]; rfl, hc1.mp hbad⟩⟩ | exact ⟨_, _, rfl, hS, hf0, Or.inr ⟨rfl, o1, by rw [← hif, forI_e (by omega)]⟩⟩) dX4_ofKind_28 (Nat.le_of_ble_eq_true rfl) (Nat.le_of_ble_eq_true rfl)
  refine x_aload_n Z dX4_ofKind_0 rfl rfl ?_
  refine x_iload_n Z dX4_ofKind_1 rfl rfl ?_
  refine x_callS Z okX4_isKind q1164 q1165 dX4_ofKind_2 (c_X4_isKind h0 htr (by assumption)) ⟨Nat.le_of_ble_eq_true rfl, Nat.le_of_ble_eq_true rfl, Nat.le_of_ble_eq_true rfl, Nat.le_of_ble_eq_true rfl⟩ rfl rfl (Nat.le_of_ble_eq_true rfl) (fun v9 w9 hR => ?_)
  obtain ⟨o9, rfl, e9, hq⟩ := hR
  refine x_ew e9 ?_
  simp only [Option.toList_some, Option.toList_none, List.cons_append, List.nil_append]
  refine x_ifb_eq Z 16 dX4_ofKind_5 (by decide) (fun c5 => ?_) (fun c5 => ?_)
  ·
    have f5 := bq_f hq c5
    refine x_ib true Z dX4_ofKind_16 (by decide) ?_
    refine x_goto Z 21 dX4_ofKind_17 (by decide) ?_
    exact join21 _ (by first | exact ⟨fun _ => by omega, fun _ => rfl⟩ | exact ⟨fun h => absurd h (by decide), fun h => (h (by omega)).elim⟩)
  ·
    have f5 := bq_t hq c5
    refine x_iload_n Z dX4_ofKind_8 rfl rfl ?_
    refine x_iload_n Z dX4_ofKind_9 rfl rfl ?_
    refine x_callS Z okX4_isSpan q1223 q1224 dX4_ofKind_10 (c_X4_isSpan h0 htr (by assumption) (by assumption)) ⟨Nat.le_of_ble_eq_true rfl, Nat.le_of_ble_eq_true rfl, Nat.le_of_ble_eq_true rfl, Nat.le_of_ble_eq_true rfl⟩ rfl rfl (Nat.le_of_ble_eq_true rfl) (fun v9 w9 hR => ?_)
    obtain ⟨o9, rfl, e9, hq⟩ := hR
    refine x_ew e9 ?_
    simp only [Option.toList_some, Option.toList_none, List.cons_append, List.nil_append]
    refine x_ifb_ne Z 20 dX4_ofKind_13 (by decide) (fun c13 => ?_) (fun c13 => ?_)
    ·
      have f13 := bq_t hq c13
      refine x_ib false Z dX4_ofKind_20 (by decide) ?_
      exact join21 _ (by first | exact ⟨fun _ => by omega, fun _ => rfl⟩ | exact ⟨fun h => absurd h (by decide), fun h => (h (by omega)).elim⟩)
    ·
      have f13 := bq_f hq c13
      refine x_ib true Z dX4_ofKind_16 (by decide) ?_
      refine x_goto Z 21 dX4_ofKind_17 (by decide) ?_
      exact join21 _ (by first | exact ⟨fun _ => by omega, fun _ => rfl⟩ | exact ⟨fun h => absurd h (by decide), fun h => (h (by omega)).elim⟩)
abbrev rmc_X4_ofQuestion : Room := { frames := 3, cells := 0, slots := 0, locals := 66 }
set_option maxRecDepth 100000 in
theorem c_X4_ofQuestion {l : Launch} {s0 : State} {G : gK} {w : wd} (h0 : gS0 s0) (htr : l.stackTraces = false) {R : rA} {S : rM} {q : Int} {f : Int} {t : Int} (hS : rS G w R S) (hiq : inr q) (hif : inr f) (hit : inr t) : gM l s0 G yX4_ofQuestion [Cond.code yX4_ofQuestion cX4_ofQuestion 6 (some .int)] rmc_X4_ofQuestion [rv R.1, iv q, iv f, iv t] w (fun v w' => ∃ (z : Int) (T : Int), v = some (iv z) ∧ rS G w' R (rT S T) ∧ fr (rP R S.1) w w' ∧ ((T = 1 ∧ ¬ ((0 ≤ q ∧ q < 14) ∧ 0 ≤ f ∧ f < 256 ∧ 0 ≤ t ∧ t < 256 ∧ f ≤ t)) ∨ (T = 0 ∧ ((0 ≤ q ∧ q < 14) ∧ 0 ≤ f ∧ f < 256 ∧ 0 ≤ t ∧ t < 256 ∧ f ≤ t) ∧ (z = forI (cst (fun c => so c q)) f (t + 1) 0)))) (noX) := by
  refine g_of h0 htr (by decide +kernel) (Nat.le_of_ble_eq_true rfl) ?_
  intro b Z0 E
  have Z : gAm b l s0 G cX4_ofQuestion RX4 6 rmc_X4_ofQuestion := Z0
  refine x_el (L' := [(0, rv R.1), (1, iv q), (2, iv f), (3, iv t)]) rfl ?_
  obtain ⟨hr1, hr2, ⟨f3, hr3, hf3⟩, hr4, hr5, hr6⟩ := id hS
  have hf0 : fr (rP R S.1) w w := fr.rf
  have join21 : ∀ (c1 : Bool), (c1 = true ↔ ¬ ((0 ≤ q ∧ q < 14) ∧ 0 ≤ f ∧ f < 256 ∧ 0 ≤ t ∧ t < 256 ∧ f ≤ t)) → gX b s0 G (0) (0) 21 [(0, rv R.1), (1, iv q), (2, iv f), (3, iv t)] [iv (b2 c1), rv R.1] (w) := by
    intro c1 hv
    have hc1 := hv
    refine x_callV (ci := 5) (C := RX4) (T := TX4) (N := 7) Z okX4_isThrown_ q1106 q1108 q15 rfl dX4_ofQuestion_21 (c_X4_isThrown_ h0 htr hS) hS.1 ⟨Nat.le_of_ble_eq_true rfl, Nat.le_of_ble_eq_true rfl, Nat.le_of_ble_eq_true rfl, Nat.le_of_ble_eq_true rfl⟩ rfl rfl (Nat.le_of_ble_eq_true rfl) (fun v9 w9 hR => ?_)
    obtain ⟨rfl, hS, hf9⟩ := hR
    have hf0 := hf0.tr hf9
    simp only [Option.toList_some, Option.toList_none, List.cons_append, List.nil_append]
    refine x_ifb_eq Z 29 dX4_ofQuestion_24 (by decide) (fun c24 => ?_) (fun c24 => ?_)
    ·
      have ea := c24
      have o1 := bq_n hc1 ea
      subst ea
      obtain ⟨hr1, hr2, ⟨f3, hr3, hf3⟩, hr4, hr5, hr6⟩ := id hS
      refine x_iconst Z dX4_ofQuestion_29 ?_
      refine x_istore (L' := [(4, _), (0, _), (1, _), (2, _), (3, _)]) Z dX4_ofQuestion_30 (Nat.le_of_ble_eq_true rfl) rfl ?_
      refine x_iload_n Z dX4_ofQuestion_32 rfl rfl ?_
      refine x_istore (L' := [(5, _), (4, _), (0, _), (1, _), (2, _), (3, _)]) Z dX4_ofQuestion_33 (Nat.le_of_ble_eq_true rfl) rfl ?_
      have loop35 : ∀ (fu : Nat) (i v : Int), (t + 1) - i < (fu : Int) → (f ≤ i ∧ i ≤ (t + 1) ∧ forI (cst (fun c => so c q)) i ((t + 1)) v = forI (cst (fun c => so c q)) f ((t + 1)) 0) → gX b s0 G (0) (0) 35 [(5, iv i), (4, iv v), (0, rv R.1), (1, iv q), (2, iv f), (3, iv t)] [] (w9) := by
        intro fu; induction fu with
        | zero => intro i v hm hv; exact absurd hm (by omega)
        | succ fu ih35 =>
          intro i v hm hv
          obtain ⟨hi0, hin, hif⟩ := hv
          have hki := kin_in i
          refine x_iload Z dX4_ofQuestion_35 rfl ?_
          refine x_iload_n Z dX4_ofQuestion_37 rfl rfl ?_
          refine x_icmp_gt Z 67 dX4_ofQuestion_38 (by decide) ⟨by omega, by omega⟩ ⟨by omega, by omega⟩ (fun c38 => ?_) (fun c38 => ?_)
          ·
            refine x_iload Z dX4_ofQuestion_67 rfl ?_
            exact x_iret Z E (by first | exact ⟨_, _, rfl, hS, hf0, Or.inl ⟨by rw [hbad]; rfl, hc1.mp hbad⟩⟩ | exact ⟨_, _, rfl, hS, hf0, Or.inr ⟨rfl, o1, by rw [← hif, forI_e (by omega)]⟩⟩) dX4_ofQuestion_69 (Nat.le_of_ble_eq_true rfl) (Nat.le_of_ble_eq_true rfl)
          ·
            refine x_iload Z dX4_ofQuestion_41 rfl ?_
            refine x_aload_n Z dX4_ofQuestion_43 rfl rfl ?_
            refine x_iload Z dX4_ofQuestion_44 rfl ?_
            refine x_iload_n Z dX4_ofQuestion_46 rfl rfl ?_
            refine x_callV (ci := 5) (C := RX4) (T := TX4) (N := 7) Z okX4_isSo q1145 q1147 q17 rfl dX4_ofQuestion_47 (c_X4_isSo h0 htr hS (by omega) (by omega) (by omega) (by omega)) hS.1 ⟨Nat.le_of_ble_eq_true rfl, Nat.le_of_ble_eq_true rfl, Nat.le_of_ble_eq_true rfl, Nat.le_of_ble_eq_true rfl⟩ rfl rfl (Nat.le_of_ble_eq_true rfl) (fun v9 w9 hR => ?_)
            obtain ⟨rfl, e9⟩ := hR
            refine x_ew e9 ?_
            simp only [Option.toList_some, Option.toList_none, List.cons_append, List.nil_append]
            refine x_ifb_eq Z 57 dX4_ofQuestion_50 (by decide) (fun c50 => ?_) (fun c50 => ?_)
            ·
              refine x_ib false Z dX4_ofQuestion_57 (by decide) ?_
              refine x_iadd Z dX4_ofQuestion_58 ?_
              refine x_istore (L' := [(4, _), (5, _), (0, _), (1, _), (2, _), (3, _)]) Z dX4_ofQuestion_59 (Nat.le_of_ble_eq_true rfl) rfl ?_
              refine x_iinc (L' := [(5, _), (4, _), (0, _), (1, _), (2, _), (3, _)]) Z dX4_ofQuestion_61 rfl (Nat.le_of_ble_eq_true rfl) rfl ?_
              refine x_goto Z 35 dX4_ofQuestion_64 (by decide) ?_
              first | exact ih35 (i + 1) (v + 1) (by omega) ⟨by omega, by omega, by rw [← hif, forI_s (i := i) (by omega), cst_t (P := fun c => so c q) (c50)]⟩ | exact ih35 (i + 1) (v + 0) (by omega) ⟨by omega, by omega, by rw [← hif, forI_s (i := i) (by omega), cst_f (P := fun c => so c q) (c50), Int.add_zero]⟩
            ·
              refine x_ib true Z dX4_ofQuestion_53 (by decide) ?_
              refine x_goto Z 58 dX4_ofQuestion_54 (by decide) ?_
              refine x_iadd Z dX4_ofQuestion_58 ?_
              refine x_istore (L' := [(4, _), (5, _), (0, _), (1, _), (2, _), (3, _)]) Z dX4_ofQuestion_59 (Nat.le_of_ble_eq_true rfl) rfl ?_
              refine x_iinc (L' := [(5, _), (4, _), (0, _), (1, _), (2, _), (3, _)]) Z dX4_ofQuestion_61 rfl (Nat.le_of_ble_eq_true rfl) rfl ?_
              refine x_goto Z 35 dX4_ofQuestion_64 (by decide) ?_
              first | exact ih35 (i + 1) (v + 1) (by omega) ⟨by omega, by omega, by rw [← hif, forI_s (i := i) (by omega), cst_t (P := fun c => so c q) (c50)]⟩ | exact ih35 (i + 1) (v + 0) (by omega) ⟨by omega, by omega, by rw [← hif, forI_s (i := i) (by omega), cst_f (P := fun c => so c q) (c50), Int.add_zero]⟩
      exact loop35 300 f 0 (by omega) ⟨by omega, by omega, rfl⟩
    ·
      have hbad := c24
      refine x_iconst Z dX4_ofQuestion_27 ?_
      exact x_iret Z E (by first | exact ⟨_, _, rfl, hS, hf0, Or.inl ⟨by rw [hbad]; rfl, hc1.mp hbad⟩⟩ | exact ⟨_, _, rfl, hS, hf0, Or.inr ⟨rfl, o1, by rw [← hif, forI_e (by omega)]⟩⟩) dX4_ofQuestion_28 (Nat.le_of_ble_eq_true rfl) (Nat.le_of_ble_eq_true rfl)
  refine x_aload_n Z dX4_ofQuestion_0 rfl rfl ?_
  refine x_iload_n Z dX4_ofQuestion_1 rfl rfl ?_
  refine x_callS Z okX4_isQuestion q1142 q1143 dX4_ofQuestion_2 (c_X4_isQuestion h0 htr (by assumption)) ⟨Nat.le_of_ble_eq_true rfl, Nat.le_of_ble_eq_true rfl, Nat.le_of_ble_eq_true rfl, Nat.le_of_ble_eq_true rfl⟩ rfl rfl (Nat.le_of_ble_eq_true rfl) (fun v9 w9 hR => ?_)
  obtain ⟨o9, rfl, e9, hq⟩ := hR
  refine x_ew e9 ?_
  simp only [Option.toList_some, Option.toList_none, List.cons_append, List.nil_append]
  refine x_ifb_eq Z 16 dX4_ofQuestion_5 (by decide) (fun c5 => ?_) (fun c5 => ?_)
  ·
    have f5 := bq_f hq c5
    refine x_ib true Z dX4_ofQuestion_16 (by decide) ?_
    refine x_goto Z 21 dX4_ofQuestion_17 (by decide) ?_
    exact join21 _ (by first | exact ⟨fun _ => by omega, fun _ => rfl⟩ | exact ⟨fun h => absurd h (by decide), fun h => (h (by omega)).elim⟩)
  ·
    have f5 := bq_t hq c5
    refine x_iload_n Z dX4_ofQuestion_8 rfl rfl ?_
    refine x_iload_n Z dX4_ofQuestion_9 rfl rfl ?_
    refine x_callS Z okX4_isSpan q1223 q1224 dX4_ofQuestion_10 (c_X4_isSpan h0 htr (by assumption) (by assumption)) ⟨Nat.le_of_ble_eq_true rfl, Nat.le_of_ble_eq_true rfl, Nat.le_of_ble_eq_true rfl, Nat.le_of_ble_eq_true rfl⟩ rfl rfl (Nat.le_of_ble_eq_true rfl) (fun v9 w9 hR => ?_)
    obtain ⟨o9, rfl, e9, hq⟩ := hR
    refine x_ew e9 ?_
    simp only [Option.toList_some, Option.toList_none, List.cons_append, List.nil_append]
    refine x_ifb_ne Z 20 dX4_ofQuestion_13 (by decide) (fun c13 => ?_) (fun c13 => ?_)
    ·
      have f13 := bq_t hq c13
      refine x_ib false Z dX4_ofQuestion_20 (by decide) ?_
      exact join21 _ (by first | exact ⟨fun _ => by omega, fun _ => rfl⟩ | exact ⟨fun h => absurd h (by decide), fun h => (h (by omega)).elim⟩)
    ·
      have f13 := bq_f hq c13
      refine x_ib true Z dX4_ofQuestion_16 (by decide) ?_
      refine x_goto Z 21 dX4_ofQuestion_17 (by decide) ?_
      exact join21 _ (by first | exact ⟨fun _ => by omega, fun _ => rfl⟩ | exact ⟨fun h => absurd h (by decide), fun h => (h (by omega)).elim⟩)
abbrev rmc_X4_kinds : Room := { frames := 2, cells := 0, slots := 0, locals := 43 }
set_option maxRecDepth 100000 in
theorem c_X4_kinds {l : Launch} {s0 : State} {G : gK} {w : wd} (h0 : gS0 s0) (htr : l.stackTraces = false) {R : rA} {S : rM} {f : Int} {t : Int} (hS : rS G w R S) (hif : inr f) (hit : inr t) : gM l s0 G yX4_kinds [Cond.code yX4_kinds cX4_kinds 5 (some .int)] rmc_X4_kinds [rv R.1, iv f, iv t] w (fun v w' => ∃ (z : Int) (T : Int), v = some (iv z) ∧ rS G w' R (rT S T) ∧ fr (rP R S.1) w w' ∧ ((T = 1 ∧ ¬ (0 ≤ f ∧ f < 256 ∧ 0 ≤ t ∧ t < 256 ∧ f ≤ t)) ∨ (T = 0 ∧ (0 ≤ f ∧ f < 256 ∧ 0 ≤ t ∧ t < 256 ∧ f ≤ t) ∧ (z = forI (fun (c v : Int) => bOr v (bShl 1 (kin c))) f (t + 1) 0)))) (noX) := by
  refine g_of h0 htr (by decide +kernel) (Nat.le_of_ble_eq_true rfl) ?_
  intro b Z0 E
  have Z : gAm b l s0 G cX4_kinds RX4 5 rmc_X4_kinds := Z0
  refine x_el (L' := [(0, rv R.1), (1, iv f), (2, iv t)]) rfl ?_
  obtain ⟨hr1, hr2, ⟨f3, hr3, hf3⟩, hr4, hr5, hr6⟩ := id hS
  have hf0 : fr (rP R S.1) w w := fr.rf
  have join14 : ∀ (c1 : Bool), (c1 = true ↔ ¬ (0 ≤ f ∧ f < 256 ∧ 0 ≤ t ∧ t < 256 ∧ f ≤ t)) → gX b s0 G (0) (0) 14 [(0, rv R.1), (1, iv f), (2, iv t)] [iv (b2 c1), rv R.1] (w) := by
    intro c1 hv
    have hc1 := hv
    refine x_callV (ci := 5) (C := RX4) (T := TX4) (N := 7) Z okX4_isThrown_ q1106 q1108 q15 rfl dX4_kinds_14 (c_X4_isThrown_ h0 htr hS) hS.1 ⟨Nat.le_of_ble_eq_true rfl, Nat.le_of_ble_eq_true rfl, Nat.le_of_ble_eq_true rfl, Nat.le_of_ble_eq_true rfl⟩ rfl rfl (Nat.le_of_ble_eq_true rfl) (fun v9 w9 hR => ?_)
    obtain ⟨rfl, hS, hf9⟩ := hR
    have hf0 := hf0.tr hf9
    simp only [Option.toList_some, Option.toList_none, List.cons_append, List.nil_append]
    refine x_ifb_eq Z 22 dX4_kinds_17 (by decide) (fun c17 => ?_) (fun c17 => ?_)
    ·
      have ea := c17
      have o1 := bq_n hc1 ea
      subst ea
      obtain ⟨hr1, hr2, ⟨f3, hr3, hf3⟩, hr4, hr5, hr6⟩ := id hS
      refine x_iconst Z dX4_kinds_22 ?_
      refine x_istore_n (L' := [(3, _), (0, _), (1, _), (2, _)]) Z dX4_kinds_23 rfl (Nat.le_of_ble_eq_true rfl) rfl ?_
      refine x_iload_n Z dX4_kinds_24 rfl rfl ?_
      refine x_istore (L' := [(4, _), (3, _), (0, _), (1, _), (2, _)]) Z dX4_kinds_25 (Nat.le_of_ble_eq_true rfl) rfl ?_
      have loop27 : ∀ (fu : Nat) (i v : Int), t + 1 - i < (fu : Int) → (f ≤ i ∧ i ≤ t + 1 ∧ forI (fun (c v : Int) => bOr v (bShl 1 (kin c))) i (t + 1) v = forI (fun (c v : Int) => bOr v (bShl 1 (kin c))) f (t + 1) 0) → gX b s0 G (0) (0) 27 [(4, iv i), (3, iv v), (0, rv R.1), (1, iv f), (2, iv t)] [] (w9) := by
        intro fu; induction fu with
        | zero => intro i v hm hv; exact absurd hm (by omega)
        | succ fu ih27 =>
          intro i v hm hv
          obtain ⟨hi0, hin, hif⟩ := hv
          refine x_iload Z dX4_kinds_27 rfl ?_
          refine x_iload_n Z dX4_kinds_29 rfl rfl ?_
          refine x_icmp_gt Z 51 dX4_kinds_30 (by decide) ⟨by omega, by omega⟩ ⟨by omega, by omega⟩ (fun c30 => ?_) (fun c30 => ?_)
          ·
            refine x_iload_n Z dX4_kinds_51 rfl rfl ?_
            exact x_iret Z E (by first | exact ⟨_, _, rfl, hS, hf0, Or.inl ⟨by rw [hbad]; rfl, hc1.mp hbad⟩⟩ | exact ⟨_, _, rfl, hS, hf0, Or.inr ⟨rfl, o1, by rw [← hif, forI_e (by omega)]⟩⟩) dX4_kinds_52 (Nat.le_of_ble_eq_true rfl) (Nat.le_of_ble_eq_true rfl)
          ·
            refine x_iload_n Z dX4_kinds_33 rfl rfl ?_
            refine x_iconst Z dX4_kinds_34 ?_
            refine x_aload_n Z dX4_kinds_35 rfl rfl ?_
            refine x_getf (ci := 5) (j := 0) (C := RX4) (T := TX4) (N := 7) Z inX4g rfl (by decide) q1041 rfl dX4_kinds_36 (by assumption) rfl ?_
            refine x_iload Z dX4_kinds_39 rfl ?_
            refine x_iald Z dX4_kinds_41 (by assumption) (by omega) (by omega) (by omega) ?_
            refine x_ishl Z dX4_kinds_42 ?_
            refine x_ior Z dX4_kinds_43 ?_
            refine x_istore_n (L' := [(3, _), (4, _), (0, _), (1, _), (2, _)]) Z dX4_kinds_44 rfl (Nat.le_of_ble_eq_true rfl) rfl ?_
            refine x_iinc (L' := [(4, _), (3, _), (0, _), (1, _), (2, _)]) Z dX4_kinds_45 rfl (Nat.le_of_ble_eq_true rfl) rfl ?_
            refine x_goto Z 27 dX4_kinds_48 (by decide) ?_
            exact ih27 (i + 1) _ (by omega) ⟨by omega, by omega, by rw [← hif, forI_s (i := i) (by omega)]⟩
      exact loop27 300 f 0 (by omega) ⟨by omega, by omega, rfl⟩
    ·
      have hbad := c17
      refine x_iconst Z dX4_kinds_20 ?_
      exact x_iret Z E (by first | exact ⟨_, _, rfl, hS, hf0, Or.inl ⟨by rw [hbad]; rfl, hc1.mp hbad⟩⟩ | exact ⟨_, _, rfl, hS, hf0, Or.inr ⟨rfl, o1, by rw [← hif, forI_e (by omega)]⟩⟩) dX4_kinds_21 (Nat.le_of_ble_eq_true rfl) (Nat.le_of_ble_eq_true rfl)
  refine x_aload_n Z dX4_kinds_0 rfl rfl ?_
  refine x_iload_n Z dX4_kinds_1 rfl rfl ?_
  refine x_iload_n Z dX4_kinds_2 rfl rfl ?_
  refine x_callS Z okX4_isSpan q1223 q1224 dX4_kinds_3 (c_X4_isSpan h0 htr (by assumption) (by assumption)) ⟨Nat.le_of_ble_eq_true rfl, Nat.le_of_ble_eq_true rfl, Nat.le_of_ble_eq_true rfl, Nat.le_of_ble_eq_true rfl⟩ rfl rfl (Nat.le_of_ble_eq_true rfl) (fun v9 w9 hR => ?_)
  obtain ⟨o9, rfl, e9, hq⟩ := hR
  refine x_ew e9 ?_
  simp only [Option.toList_some, Option.toList_none, List.cons_append, List.nil_append]
  refine x_ifb_ne Z 13 dX4_kinds_6 (by decide) (fun c6 => ?_) (fun c6 => ?_)
  ·
    have f6 := bq_t hq c6
    refine x_ib false Z dX4_kinds_13 (by decide) ?_
    exact join14 _ (by first | exact ⟨fun _ => by omega, fun _ => rfl⟩ | exact ⟨fun h => absurd h (by decide), fun h => (h (by omega)).elim⟩)
  ·
    have f6 := bq_f hq c6
    refine x_ib true Z dX4_kinds_9 (by decide) ?_
    refine x_goto Z 14 dX4_kinds_10 (by decide) ?_
    exact join14 _ (by first | exact ⟨fun _ => by omega, fun _ => rfl⟩ | exact ⟨fun h => absurd h (by decide), fun h => (h (by omega)).elim⟩)
abbrev rmc_X4_both : Room := { frames := 3, cells := 0, slots := 0, locals := 66 }
set_option maxRecDepth 100000 in
theorem c_X4_both {l : Launch} {s0 : State} {G : gK} {w : wd} (h0 : gS0 s0) (htr : l.stackTraces = false) {R : rA} {S : rM} {k1 : Int} {q : Int} (hS : rS G w R S) (hik1 : inr k1) (hiq : inr q) : gM l s0 G yX4_both [Cond.code yX4_both cX4_both 5 (some .int)] rmc_X4_both [rv R.1, iv k1, iv q] w (fun v w' => ∃ (z : Int) (T : Int), v = some (iv z) ∧ rS G w' R (rT S T) ∧ fr (rP R S.1) w w' ∧ ((T = 1 ∧ ¬ ((0 ≤ k1 ∧ k1 < 31) ∧ 0 ≤ q ∧ q < 14)) ∨ (T = 0 ∧ ((0 ≤ k1 ∧ k1 < 31) ∧ 0 ≤ q ∧ q < 14) ∧ (z = forI (cst (fun c => decide (kin c = k1) && so c q)) 0 256 0)))) (noX) := by
  refine g_of h0 htr (by decide +kernel) (Nat.le_of_ble_eq_true rfl) ?_
  intro b Z0 E
  have Z : gAm b l s0 G cX4_both RX4 5 rmc_X4_both := Z0
  refine x_el (L' := [(0, rv R.1), (1, iv k1), (2, iv q)]) rfl ?_
  obtain ⟨hr1, hr2, ⟨f3, hr3, hf3⟩, hr4, hr5, hr6⟩ := id hS
  have hf0 : fr (rP R S.1) w w := fr.rf
  have join20 : ∀ (c1 : Bool), (c1 = true ↔ ¬ ((0 ≤ k1 ∧ k1 < 31) ∧ 0 ≤ q ∧ q < 14)) → gX b s0 G (0) (0) 20 [(0, rv R.1), (1, iv k1), (2, iv q)] [iv (b2 c1), rv R.1] (w) := by
    intro c1 hv
    have hc1 := hv
    refine x_callV (ci := 5) (C := RX4) (T := TX4) (N := 7) Z okX4_isThrown_ q1106 q1108 q15 rfl dX4_both_20 (c_X4_isThrown_ h0 htr hS) hS.1 ⟨Nat.le_of_ble_eq_true rfl, Nat.le_of_ble_eq_true rfl, Nat.le_of_ble_eq_true rfl, Nat.le_of_ble_eq_true rfl⟩ rfl rfl (Nat.le_of_ble_eq_true rfl) (fun v9 w9 hR => ?_)
    obtain ⟨rfl, hS, hf9⟩ := hR
    have hf0 := hf0.tr hf9
    simp only [Option.toList_some, Option.toList_none, List.cons_append, List.nil_append]
    refine x_ifb_eq Z 28 dX4_both_23 (by decide) (fun c23 => ?_) (fun c23 => ?_)
    ·
      have ea := c23
      have o1 := bq_n hc1 ea
      subst ea
      obtain ⟨hr1, hr2, ⟨f3, hr3, hf3⟩, hr4, hr5, hr6⟩ := id hS
      refine x_iconst Z dX4_both_28 ?_
      refine x_istore_n (L' := [(3, _), (0, _), (1, _), (2, _)]) Z dX4_both_29 rfl (Nat.le_of_ble_eq_true rfl) rfl ?_
      refine x_iconst Z dX4_both_30 ?_
      refine x_istore (L' := [(4, _), (3, _), (0, _), (1, _), (2, _)]) Z dX4_both_31 (Nat.le_of_ble_eq_true rfl) rfl ?_
      have loop33 : ∀ (fu : Nat) (i v : Int), 256 - i < (fu : Int) → (0 ≤ i ∧ i ≤ 256 ∧ forI (cst (fun c => decide (kin c = k1) && so c q)) i (256) v = forI (cst (fun c => decide (kin c = k1) && so c q)) 0 (256) 0) → gX b s0 G (0) (0) 33 [(4, iv i), (3, iv v), (0, rv R.1), (1, iv k1), (2, iv q)] [] (w9) := by
        intro fu; induction fu with
        | zero => intro i v hm hv; exact absurd hm (by omega)
        | succ fu ih33 =>
          intro i v hm hv
          obtain ⟨hi0, hin, hif⟩ := hv
          have hki := kin_in i
          refine x_iload Z dX4_both_33 rfl ?_
          refine x_sipush Z dX4_both_35 (by decide +kernel) ?_
          refine x_icmp_ge Z 76 dX4_both_38 (by decide) ⟨by omega, by omega⟩ ⟨by omega, by omega⟩ (fun c38 => ?_) (fun c38 => ?_)
          ·
            refine x_iload_n Z dX4_both_76 rfl rfl ?_
            exact x_iret Z E (by first | exact ⟨_, _, rfl, hS, hf0, Or.inl ⟨by rw [hbad]; rfl, hc1.mp hbad⟩⟩ | exact ⟨_, _, rfl, hS, hf0, Or.inr ⟨rfl, o1, by rw [← hif, forI_e (by omega)]⟩⟩) dX4_both_77 (Nat.le_of_ble_eq_true rfl) (Nat.le_of_ble_eq_true rfl)
          ·
            refine x_iload_n Z dX4_both_41 rfl rfl ?_
            refine x_aload_n Z dX4_both_42 rfl rfl ?_
            refine x_getf (ci := 5) (j := 0) (C := RX4) (T := TX4) (N := 7) Z inX4g rfl (by decide) q1041 rfl dX4_both_43 (by assumption) rfl ?_
            refine x_iload Z dX4_both_46 rfl ?_
            refine x_iald Z dX4_both_48 (by assumption) (by omega) (by omega) (by omega) ?_
            refine x_iload_n Z dX4_both_49 rfl rfl ?_
            have hki := kin_in i
            refine x_icmp_ne Z 67 dX4_both_50 (by decide) ⟨by omega, by omega⟩ ⟨by omega, by omega⟩ (fun c50 => ?_) (fun c50 => ?_)
            ·
              refine x_ib false Z dX4_both_67 (by decide) ?_
              refine x_iadd Z dX4_both_68 ?_
              refine x_istore_n (L' := [(3, _), (4, _), (0, _), (1, _), (2, _)]) Z dX4_both_69 rfl (Nat.le_of_ble_eq_true rfl) rfl ?_
              refine x_iinc (L' := [(4, _), (3, _), (0, _), (1, _), (2, _)]) Z dX4_both_70 rfl (Nat.le_of_ble_eq_true rfl) rfl ?_
              refine x_goto Z 33 dX4_both_73 (by decide) ?_
              first | exact ih33 (i + 1) (v + 1) (by omega) ⟨by omega, by omega, by rw [← hif, forI_s (i := i) (by omega), cst_t (P := fun c => decide (kin c = k1) && so c q) (by first | (simp [c50, c60]; done) | (simp [c50]; done))]⟩ | exact ih33 (i + 1) (v + 0) (by omega) ⟨by omega, by omega, by rw [← hif, forI_s (i := i) (by omega), cst_f (P := fun c => decide (kin c = k1) && so c q) (by first | (simp [c50, c60]; done) | (simp [c50]; done)), Int.add_zero]⟩
            ·
              refine x_aload_n Z dX4_both_53 rfl rfl ?_
              refine x_iload Z dX4_both_54 rfl ?_
              refine x_iload_n Z dX4_both_56 rfl rfl ?_
              refine x_callV (ci := 5) (C := RX4) (T := TX4) (N := 7) Z okX4_isSo q1145 q1147 q17 rfl dX4_both_57 (c_X4_isSo h0 htr hS (by omega) (by omega) (by omega) (by omega)) hS.1 ⟨Nat.le_of_ble_eq_true rfl, Nat.le_of_ble_eq_true rfl, Nat.le_of_ble_eq_true rfl, Nat.le_of_ble_eq_true rfl⟩ rfl rfl (Nat.le_of_ble_eq_true rfl) (fun v9 w9 hR => ?_)
              obtain ⟨rfl, e9⟩ := hR
              refine x_ew e9 ?_
              simp only [Option.toList_some, Option.toList_none, List.cons_append, List.nil_append]
              refine x_ifb_eq Z 67 dX4_both_60 (by decide) (fun c60 => ?_) (fun c60 => ?_)
              ·
                refine x_ib false Z dX4_both_67 (by decide) ?_
                refine x_iadd Z dX4_both_68 ?_
                refine x_istore_n (L' := [(3, _), (4, _), (0, _), (1, _), (2, _)]) Z dX4_both_69 rfl (Nat.le_of_ble_eq_true rfl) rfl ?_
                refine x_iinc (L' := [(4, _), (3, _), (0, _), (1, _), (2, _)]) Z dX4_both_70 rfl (Nat.le_of_ble_eq_true rfl) rfl ?_
                refine x_goto Z 33 dX4_both_73 (by decide) ?_
                first | exact ih33 (i + 1) (v + 1) (by omega) ⟨by omega, by omega, by rw [← hif, forI_s (i := i) (by omega), cst_t (P := fun c => decide (kin c = k1) && so c q) (by first | (simp [c50, c60]; done) | (simp [c50]; done))]⟩ | exact ih33 (i + 1) (v + 0) (by omega) ⟨by omega, by omega, by rw [← hif, forI_s (i := i) (by omega), cst_f (P := fun c => decide (kin c = k1) && so c q) (by first | (simp [c50, c60]; done) | (simp [c50]; done)), Int.add_zero]⟩
              ·
                refine x_ib true Z dX4_both_63 (by decide) ?_
                refine x_goto Z 68 dX4_both_64 (by decide) ?_
                refine x_iadd Z dX4_both_68 ?_
                refine x_istore_n (L' := [(3, _), (4, _), (0, _), (1, _), (2, _)]) Z dX4_both_69 rfl (Nat.le_of_ble_eq_true rfl) rfl ?_
                refine x_iinc (L' := [(4, _), (3, _), (0, _), (1, _), (2, _)]) Z dX4_both_70 rfl (Nat.le_of_ble_eq_true rfl) rfl ?_
                refine x_goto Z 33 dX4_both_73 (by decide) ?_
                first | exact ih33 (i + 1) (v + 1) (by omega) ⟨by omega, by omega, by rw [← hif, forI_s (i := i) (by omega), cst_t (P := fun c => decide (kin c = k1) && so c q) (by first | (simp [c50, c60]; done) | (simp [c50]; done))]⟩ | exact ih33 (i + 1) (v + 0) (by omega) ⟨by omega, by omega, by rw [← hif, forI_s (i := i) (by omega), cst_f (P := fun c => decide (kin c = k1) && so c q) (by first | (simp [c50, c60]; done) | (simp [c50]; done)), Int.add_zero]⟩
      exact loop33 300 0 0 (by omega) ⟨by omega, by omega, rfl⟩
    ·
      have hbad := c23
      refine x_iconst Z dX4_both_26 ?_
      exact x_iret Z E (by first | exact ⟨_, _, rfl, hS, hf0, Or.inl ⟨by rw [hbad]; rfl, hc1.mp hbad⟩⟩ | exact ⟨_, _, rfl, hS, hf0, Or.inr ⟨rfl, o1, by rw [← hif, forI_e (by omega)]⟩⟩) dX4_both_27 (Nat.le_of_ble_eq_true rfl) (Nat.le_of_ble_eq_true rfl)
  refine x_aload_n Z dX4_both_0 rfl rfl ?_
  refine x_iload_n Z dX4_both_1 rfl rfl ?_
  refine x_callS Z okX4_isKind q1164 q1165 dX4_both_2 (c_X4_isKind h0 htr (by assumption)) ⟨Nat.le_of_ble_eq_true rfl, Nat.le_of_ble_eq_true rfl, Nat.le_of_ble_eq_true rfl, Nat.le_of_ble_eq_true rfl⟩ rfl rfl (Nat.le_of_ble_eq_true rfl) (fun v9 w9 hR => ?_)
  obtain ⟨o9, rfl, e9, hq⟩ := hR
  refine x_ew e9 ?_
  simp only [Option.toList_some, Option.toList_none, List.cons_append, List.nil_append]
  refine x_ifb_eq Z 15 dX4_both_5 (by decide) (fun c5 => ?_) (fun c5 => ?_)
  ·
    have f5 := bq_f hq c5
    refine x_ib true Z dX4_both_15 (by decide) ?_
    refine x_goto Z 20 dX4_both_16 (by decide) ?_
    exact join20 _ (by first | exact ⟨fun _ => by omega, fun _ => rfl⟩ | exact ⟨fun h => absurd h (by decide), fun h => (h (by omega)).elim⟩)
  ·
    have f5 := bq_t hq c5
    refine x_iload_n Z dX4_both_8 rfl rfl ?_
    refine x_callS Z okX4_isQuestion q1142 q1143 dX4_both_9 (c_X4_isQuestion h0 htr (by assumption)) ⟨Nat.le_of_ble_eq_true rfl, Nat.le_of_ble_eq_true rfl, Nat.le_of_ble_eq_true rfl, Nat.le_of_ble_eq_true rfl⟩ rfl rfl (Nat.le_of_ble_eq_true rfl) (fun v9 w9 hR => ?_)
    obtain ⟨o9, rfl, e9, hq⟩ := hR
    refine x_ew e9 ?_
    simp only [Option.toList_some, Option.toList_none, List.cons_append, List.nil_append]
    refine x_ifb_ne Z 19 dX4_both_12 (by decide) (fun c12 => ?_) (fun c12 => ?_)
    ·
      have f12 := bq_t hq c12
      refine x_ib false Z dX4_both_19 (by decide) ?_
      exact join20 _ (by first | exact ⟨fun _ => by omega, fun _ => rfl⟩ | exact ⟨fun h => absurd h (by decide), fun h => (h (by omega)).elim⟩)
    ·
      have f12 := bq_f hq c12
      refine x_ib true Z dX4_both_15 (by decide) ?_
      refine x_goto Z 20 dX4_both_16 (by decide) ?_
      exact join20 _ (by first | exact ⟨fun _ => by omega, fun _ => rfl⟩ | exact ⟨fun h => absurd h (by decide), fun h => (h (by omega)).elim⟩)
abbrev rmc_X4_within : Room := { frames := 3, cells := 0, slots := 0, locals := 66 }
set_option maxRecDepth 100000 in
theorem c_X4_within {l : Launch} {s0 : State} {G : gK} {w : wd} (h0 : gS0 s0) (htr : l.stackTraces = false) {R : rA} {S : rM} {q : Int} {u : Int} (hS : rS G w R S) (hiq : inr q) (hiu : inr u) : gM l s0 G yX4_within [Cond.code yX4_within cX4_within 4 (some .boolean)] rmc_X4_within [rv R.1, iv q, iv u] w (fun v w' => ∃ (z : Bool) (T : Int), v = some (iv (b2 z)) ∧ rS G w' R (rT S T) ∧ fr (rP R S.1) w w' ∧ ((T = 1 ∧ ¬ ((0 ≤ q ∧ q < 14) ∧ 0 ≤ u ∧ u < 14)) ∨ (T = 0 ∧ ((0 ≤ q ∧ q < 14) ∧ 0 ≤ u ∧ u < 14) ∧ (z = decide (findI (fun c => so c q && !so c u) 0 256 = 256))))) (noX) := by
  refine g_of h0 htr (by decide +kernel) (Nat.le_of_ble_eq_true rfl) ?_
  intro b Z0 E
  have Z : gAm b l s0 G cX4_within RX4 4 rmc_X4_within := Z0
  refine x_el (L' := [(0, rv R.1), (1, iv q), (2, iv u)]) rfl ?_
  obtain ⟨hr1, hr2, ⟨f3, hr3, hf3⟩, hr4, hr5, hr6⟩ := id hS
  have hf0 : fr (rP R S.1) w w := fr.rf
  have join20 : ∀ (c1 : Bool), (c1 = true ↔ ¬ ((0 ≤ q ∧ q < 14) ∧ 0 ≤ u ∧ u < 14)) → gX b s0 G (0) (0) 20 [(0, rv R.1), (1, iv q), (2, iv u)] [iv (b2 c1), rv R.1] (w) := by
    intro c1 hv
    have hc1 := hv
    refine x_callV (ci := 5) (C := RX4) (T := TX4) (N := 7) Z okX4_isThrown_ q1106 q1108 q15 rfl dX4_within_20 (c_X4_isThrown_ h0 htr hS) hS.1 ⟨Nat.le_of_ble_eq_true rfl, Nat.le_of_ble_eq_true rfl, Nat.le_of_ble_eq_true rfl, Nat.le_of_ble_eq_true rfl⟩ rfl rfl (Nat.le_of_ble_eq_true rfl) (fun v9 w9 hR => ?_)
    obtain ⟨rfl, hS, hf9⟩ := hR
    have hf0 := hf0.tr hf9
    simp only [Option.toList_some, Option.toList_none, List.cons_append, List.nil_append]
    refine x_ifb_eq Z 28 dX4_within_23 (by decide) (fun c23 => ?_) (fun c23 => ?_)
    ·
      have ea := c23
      have o1 := bq_n hc1 ea
      subst ea
      obtain ⟨hr1, hr2, ⟨f3, hr3, hf3⟩, hr4, hr5, hr6⟩ := id hS
      refine x_iconst Z dX4_within_28 ?_
      refine x_istore_n (L' := [(3, _), (0, _), (1, _), (2, _)]) Z dX4_within_29 rfl (Nat.le_of_ble_eq_true rfl) rfl ?_
      have loop30 : ∀ (fu : Nat) (i : Int), 256 - i < (fu : Int) → (0 ≤ i ∧ i ≤ 256 ∧ findI (fun c => so c q && !so c u) i 256 = findI (fun c => so c q && !so c u) 0 256) → gX b s0 G (0) (0) 30 [(3, iv i), (0, rv R.1), (1, iv q), (2, iv u)] [] (w9) := by
        intro fu; induction fu with
        | zero => intro i hm hv; exact absurd hm (by omega)
        | succ fu ih30 =>
          intro i hm hv
          obtain ⟨hi0, hin, hif⟩ := hv
          refine x_iload_n Z dX4_within_30 rfl rfl ?_
          refine x_sipush Z dX4_within_31 (by decide +kernel) ?_
          refine x_icmp_ge Z 63 dX4_within_34 (by decide) ⟨by omega, by omega⟩ ⟨by omega, by omega⟩ (fun c34 => ?_) (fun c34 => ?_)
          ·
            refine x_ib true Z dX4_within_63 (by decide) ?_
            exact x_zret Z E (⟨_, _, rfl, hS, hf0, Or.inr ⟨rfl, o1, by rw [← hif, findI_e (by omega), decide_eq_true (by omega)]⟩⟩) dX4_within_64 (Nat.le_of_ble_eq_true rfl) (Nat.le_of_ble_eq_true rfl)
          ·
            refine x_aload_n Z dX4_within_37 rfl rfl ?_
            refine x_iload_n Z dX4_within_38 rfl rfl ?_
            refine x_iload_n Z dX4_within_39 rfl rfl ?_
            refine x_callV (ci := 5) (C := RX4) (T := TX4) (N := 7) Z okX4_isSo q1145 q1147 q17 rfl dX4_within_40 (c_X4_isSo h0 htr hS (by omega) (by omega) (by omega) (by omega)) hS.1 ⟨Nat.le_of_ble_eq_true rfl, Nat.le_of_ble_eq_true rfl, Nat.le_of_ble_eq_true rfl, Nat.le_of_ble_eq_true rfl⟩ rfl rfl (Nat.le_of_ble_eq_true rfl) (fun v9 w9 hR => ?_)
            obtain ⟨rfl, e9⟩ := hR
            refine x_ew e9 ?_
            simp only [Option.toList_some, Option.toList_none, List.cons_append, List.nil_append]
            refine x_ifb_eq Z 57 dX4_within_43 (by decide) (fun c43 => ?_) (fun c43 => ?_)
            ·
              refine x_iinc (L' := [(3, _), (0, _), (1, _), (2, _)]) Z dX4_within_57 rfl (Nat.le_of_ble_eq_true rfl) rfl ?_
              refine x_goto Z 30 dX4_within_60 (by decide) ?_
              exact ih30 (i + 1) (by omega) ⟨by omega, by omega, by rw [← hif]; exact (findI_m (by omega) (by first | (simp [c43, c52]; done) | (simp [c43]; done))).symm⟩
            ·
              refine x_aload_n Z dX4_within_46 rfl rfl ?_
              refine x_iload_n Z dX4_within_47 rfl rfl ?_
              refine x_iload_n Z dX4_within_48 rfl rfl ?_
              refine x_callV (ci := 5) (C := RX4) (T := TX4) (N := 7) Z okX4_isSo q1145 q1147 q17 rfl dX4_within_49 (c_X4_isSo h0 htr hS (by omega) (by omega) (by omega) (by omega)) hS.1 ⟨Nat.le_of_ble_eq_true rfl, Nat.le_of_ble_eq_true rfl, Nat.le_of_ble_eq_true rfl, Nat.le_of_ble_eq_true rfl⟩ rfl rfl (Nat.le_of_ble_eq_true rfl) (fun v9 w9 hR => ?_)
              obtain ⟨rfl, e9⟩ := hR
              refine x_ew e9 ?_
              simp only [Option.toList_some, Option.toList_none, List.cons_append, List.nil_append]
              refine x_ifb_ne Z 57 dX4_within_52 (by decide) (fun c52 => ?_) (fun c52 => ?_)
              ·
                refine x_iinc (L' := [(3, _), (0, _), (1, _), (2, _)]) Z dX4_within_57 rfl (Nat.le_of_ble_eq_true rfl) rfl ?_
                refine x_goto Z 30 dX4_within_60 (by decide) ?_
                exact ih30 (i + 1) (by omega) ⟨by omega, by omega, by rw [← hif]; exact (findI_m (by omega) (by first | (simp [c43, c52]; done) | (simp [c43]; done))).symm⟩
              ·
                refine x_ib false Z dX4_within_55 (by decide) ?_
                exact x_zret Z E (⟨_, _, rfl, hS, hf0, Or.inr ⟨rfl, o1, by rw [← hif, findI_h (by simp [c43, c52]), decide_eq_false (by omega)]⟩⟩) dX4_within_56 (Nat.le_of_ble_eq_true rfl) (Nat.le_of_ble_eq_true rfl)
      exact loop30 300 0 (by omega) ⟨by omega, by omega, rfl⟩
    ·
      have hbad := c23
      refine x_ib false Z dX4_within_26 (by decide) ?_
      exact x_zret Z E (⟨_, _, rfl, hS, hf0, Or.inl ⟨by rw [hbad]; rfl, hc1.mp hbad⟩⟩) dX4_within_27 (Nat.le_of_ble_eq_true rfl) (Nat.le_of_ble_eq_true rfl)
  refine x_aload_n Z dX4_within_0 rfl rfl ?_
  refine x_iload_n Z dX4_within_1 rfl rfl ?_
  refine x_callS Z okX4_isQuestion q1142 q1143 dX4_within_2 (c_X4_isQuestion h0 htr (by assumption)) ⟨Nat.le_of_ble_eq_true rfl, Nat.le_of_ble_eq_true rfl, Nat.le_of_ble_eq_true rfl, Nat.le_of_ble_eq_true rfl⟩ rfl rfl (Nat.le_of_ble_eq_true rfl) (fun v9 w9 hR => ?_)
  obtain ⟨o9, rfl, e9, hq⟩ := hR
  refine x_ew e9 ?_
  simp only [Option.toList_some, Option.toList_none, List.cons_append, List.nil_append]
  refine x_ifb_eq Z 15 dX4_within_5 (by decide) (fun c5 => ?_) (fun c5 => ?_)
  ·
    have f5 := bq_f hq c5
    refine x_ib true Z dX4_within_15 (by decide) ?_
    refine x_goto Z 20 dX4_within_16 (by decide) ?_
    exact join20 _ (by first | exact ⟨fun _ => by omega, fun _ => rfl⟩ | exact ⟨fun h => absurd h (by decide), fun h => (h (by omega)).elim⟩)
  ·
    have f5 := bq_t hq c5
    refine x_iload_n Z dX4_within_8 rfl rfl ?_
    refine x_callS Z okX4_isQuestion q1142 q1143 dX4_within_9 (c_X4_isQuestion h0 htr (by assumption)) ⟨Nat.le_of_ble_eq_true rfl, Nat.le_of_ble_eq_true rfl, Nat.le_of_ble_eq_true rfl, Nat.le_of_ble_eq_true rfl⟩ rfl rfl (Nat.le_of_ble_eq_true rfl) (fun v9 w9 hR => ?_)
    obtain ⟨o9, rfl, e9, hq⟩ := hR
    refine x_ew e9 ?_
    simp only [Option.toList_some, Option.toList_none, List.cons_append, List.nil_append]
    refine x_ifb_ne Z 19 dX4_within_12 (by decide) (fun c12 => ?_) (fun c12 => ?_)
    ·
      have f12 := bq_t hq c12
      refine x_ib false Z dX4_within_19 (by decide) ?_
      exact join20 _ (by first | exact ⟨fun _ => by omega, fun _ => rfl⟩ | exact ⟨fun h => absurd h (by decide), fun h => (h (by omega)).elim⟩)
    ·
      have f12 := bq_f hq c12
      refine x_ib true Z dX4_within_15 (by decide) ?_
      refine x_goto Z 20 dX4_within_16 (by decide) ?_
      exact join20 _ (by first | exact ⟨fun _ => by omega, fun _ => rfl⟩ | exact ⟨fun h => absurd h (by decide), fun h => (h (by omega)).elim⟩)
abbrev rmc_X4_differ : Room := { frames := 3, cells := 0, slots := 0, locals := 66 }
set_option maxRecDepth 100000 in
theorem c_X4_differ {l : Launch} {s0 : State} {G : gK} {w : wd} (h0 : gS0 s0) (htr : l.stackTraces = false) {R : rA} {S : rM} {q : Int} {u : Int} {f : Int} (hS : rS G w R S) (hiq : inr q) (hiu : inr u) (hif : inr f) : gM l s0 G yX4_differ [Cond.code yX4_differ cX4_differ 5 (some .int)] rmc_X4_differ [rv R.1, iv q, iv u, iv f] w (fun v w' => ∃ (z : Int) (T : Int), v = some (iv z) ∧ rS G w' R (rT S T) ∧ fr (rP R S.1) w w' ∧ ((T = 1 ∧ ¬ ((0 ≤ q ∧ q < 14) ∧ (0 ≤ u ∧ u < 14) ∧ 0 ≤ f ∧ f < 256)) ∨ (T = 0 ∧ ((0 ≤ q ∧ q < 14) ∧ (0 ≤ u ∧ u < 14) ∧ 0 ≤ f ∧ f < 256) ∧ (z = (if findI (fun c => so c q != so c u) f 256 < 256 then findI (fun c => so c q != so c u) f 256 else -1))))) (noX) := by
  refine g_of h0 htr (by decide +kernel) (Nat.le_of_ble_eq_true rfl) ?_
  intro b Z0 E
  have Z : gAm b l s0 G cX4_differ RX4 5 rmc_X4_differ := Z0
  refine x_el (L' := [(0, rv R.1), (1, iv q), (2, iv u), (3, iv f)]) rfl ?_
  obtain ⟨hr1, hr2, ⟨f3, hr3, hf3⟩, hr4, hr5, hr6⟩ := id hS
  have hf0 : fr (rP R S.1) w w := fr.rf
  have join27 : ∀ (c1 : Bool), (c1 = true ↔ ¬ ((0 ≤ q ∧ q < 14) ∧ (0 ≤ u ∧ u < 14) ∧ 0 ≤ f ∧ f < 256)) → gX b s0 G (0) (0) 27 [(0, rv R.1), (1, iv q), (2, iv u), (3, iv f)] [iv (b2 c1), rv R.1] (w) := by
    intro c1 hv
    have hc1 := hv
    refine x_callV (ci := 5) (C := RX4) (T := TX4) (N := 7) Z okX4_isThrown_ q1106 q1108 q15 rfl dX4_differ_27 (c_X4_isThrown_ h0 htr hS) hS.1 ⟨Nat.le_of_ble_eq_true rfl, Nat.le_of_ble_eq_true rfl, Nat.le_of_ble_eq_true rfl, Nat.le_of_ble_eq_true rfl⟩ rfl rfl (Nat.le_of_ble_eq_true rfl) (fun v9 w9 hR => ?_)
    obtain ⟨rfl, hS, hf9⟩ := hR
    have hf0 := hf0.tr hf9
    simp only [Option.toList_some, Option.toList_none, List.cons_append, List.nil_append]
    refine x_ifb_eq Z 35 dX4_differ_30 (by decide) (fun c30 => ?_) (fun c30 => ?_)
    ·
      have ea := c30
      have o1 := bq_n hc1 ea
      subst ea
      obtain ⟨hr1, hr2, ⟨f3, hr3, hf3⟩, hr4, hr5, hr6⟩ := id hS
      refine x_iload_n Z dX4_differ_35 rfl rfl ?_
      refine x_istore (L' := [(4, _), (0, _), (1, _), (2, _), (3, _)]) Z dX4_differ_36 (Nat.le_of_ble_eq_true rfl) rfl ?_
      have loop38 : ∀ (fu : Nat) (i : Int), 256 - i < (fu : Int) → (f ≤ i ∧ i ≤ 256 ∧ findI (fun c => so c q != so c u) i 256 = findI (fun c => so c q != so c u) f 256) → gX b s0 G (0) (0) 38 [(4, iv i), (0, rv R.1), (1, iv q), (2, iv u), (3, iv f)] [] (w9) := by
        intro fu; induction fu with
        | zero => intro i hm hv; exact absurd hm (by omega)
        | succ fu ih38 =>
          intro i hm hv
          obtain ⟨hi0, hin, hif⟩ := hv
          refine x_iload Z dX4_differ_38 rfl ?_
          refine x_sipush Z dX4_differ_40 (by decide +kernel) ?_
          refine x_icmp_ge Z 72 dX4_differ_43 (by decide) ⟨by omega, by omega⟩ ⟨by omega, by omega⟩ (fun c43 => ?_) (fun c43 => ?_)
          ·
            refine x_iconst Z dX4_differ_72 ?_
            exact x_iret Z E (⟨_, _, rfl, hS, hf0, Or.inr ⟨rfl, o1, by rw [← hif, findI_e (by omega), if_neg (by omega)]⟩⟩) dX4_differ_73 (Nat.le_of_ble_eq_true rfl) (Nat.le_of_ble_eq_true rfl)
          ·
            refine x_aload_n Z dX4_differ_46 rfl rfl ?_
            refine x_iload Z dX4_differ_47 rfl ?_
            refine x_iload_n Z dX4_differ_49 rfl rfl ?_
            refine x_callV (ci := 5) (C := RX4) (T := TX4) (N := 7) Z okX4_isSo q1145 q1147 q17 rfl dX4_differ_50 (c_X4_isSo h0 htr hS (by omega) (by omega) (by omega) (by omega)) hS.1 ⟨Nat.le_of_ble_eq_true rfl, Nat.le_of_ble_eq_true rfl, Nat.le_of_ble_eq_true rfl, Nat.le_of_ble_eq_true rfl⟩ rfl rfl (Nat.le_of_ble_eq_true rfl) (fun v9 w9 hR => ?_)
            obtain ⟨rfl, e9⟩ := hR
            refine x_ew e9 ?_
            simp only [Option.toList_some, Option.toList_none, List.cons_append, List.nil_append]
            refine x_aload_n Z dX4_differ_53 rfl rfl ?_
            refine x_iload Z dX4_differ_54 rfl ?_
            refine x_iload_n Z dX4_differ_56 rfl rfl ?_
            refine x_callV (ci := 5) (C := RX4) (T := TX4) (N := 7) Z okX4_isSo q1145 q1147 q17 rfl dX4_differ_57 (c_X4_isSo h0 htr hS (by omega) (by omega) (by omega) (by omega)) hS.1 ⟨Nat.le_of_ble_eq_true rfl, Nat.le_of_ble_eq_true rfl, Nat.le_of_ble_eq_true rfl, Nat.le_of_ble_eq_true rfl⟩ rfl rfl (Nat.le_of_ble_eq_true rfl) (fun v9 w9 hR => ?_)
            obtain ⟨rfl, e9⟩ := hR
            refine x_ew e9 ?_
            simp only [Option.toList_some, Option.toList_none, List.cons_append, List.nil_append]
            refine x_icmpb_eq Z 66 dX4_differ_60 (by decide) (fun c60 => ?_) (fun c60 => ?_)
            ·
              refine x_iinc (L' := [(4, _), (0, _), (1, _), (2, _), (3, _)]) Z dX4_differ_66 rfl (Nat.le_of_ble_eq_true rfl) rfl ?_
              refine x_goto Z 38 dX4_differ_69 (by decide) ?_
              exact ih38 (i + 1) (by omega) ⟨by omega, by omega, by rw [← hif]; exact (findI_m (by omega) (by simpa using c60)).symm⟩
            ·
              refine x_iload Z dX4_differ_63 rfl ?_
              exact x_iret Z E (⟨_, _, rfl, hS, hf0, Or.inr ⟨rfl, o1, by rw [← hif, findI_h (by simpa using c60), if_pos (by omega)]⟩⟩) dX4_differ_65 (Nat.le_of_ble_eq_true rfl) (Nat.le_of_ble_eq_true rfl)
      exact loop38 300 f (by omega) ⟨by omega, by omega, rfl⟩
    ·
      have hbad := c30
      refine x_iconst Z dX4_differ_33 ?_
      exact x_iret Z E (⟨_, _, rfl, hS, hf0, Or.inl ⟨by rw [hbad]; rfl, hc1.mp hbad⟩⟩) dX4_differ_34 (Nat.le_of_ble_eq_true rfl) (Nat.le_of_ble_eq_true rfl)
  refine x_aload_n Z dX4_differ_0 rfl rfl ?_
  refine x_iload_n Z dX4_differ_1 rfl rfl ?_
  refine x_callS Z okX4_isQuestion q1142 q1143 dX4_differ_2 (c_X4_isQuestion h0 htr (by assumption)) ⟨Nat.le_of_ble_eq_true rfl, Nat.le_of_ble_eq_true rfl, Nat.le_of_ble_eq_true rfl, Nat.le_of_ble_eq_true rfl⟩ rfl rfl (Nat.le_of_ble_eq_true rfl) (fun v9 w9 hR => ?_)
  obtain ⟨o9, rfl, e9, hq⟩ := hR
  refine x_ew e9 ?_
  simp only [Option.toList_some, Option.toList_none, List.cons_append, List.nil_append]
  refine x_ifb_eq Z 22 dX4_differ_5 (by decide) (fun c5 => ?_) (fun c5 => ?_)
  ·
    have f5 := bq_f hq c5
    refine x_ib true Z dX4_differ_22 (by decide) ?_
    refine x_goto Z 27 dX4_differ_23 (by decide) ?_
    exact join27 _ (by first | exact ⟨fun _ => by omega, fun _ => rfl⟩ | exact ⟨fun h => absurd h (by decide), fun h => (h (by omega)).elim⟩)
  ·
    have f5 := bq_t hq c5
    refine x_iload_n Z dX4_differ_8 rfl rfl ?_
    refine x_callS Z okX4_isQuestion q1142 q1143 dX4_differ_9 (c_X4_isQuestion h0 htr (by assumption)) ⟨Nat.le_of_ble_eq_true rfl, Nat.le_of_ble_eq_true rfl, Nat.le_of_ble_eq_true rfl, Nat.le_of_ble_eq_true rfl⟩ rfl rfl (Nat.le_of_ble_eq_true rfl) (fun v9 w9 hR => ?_)
    obtain ⟨o9, rfl, e9, hq⟩ := hR
    refine x_ew e9 ?_
    simp only [Option.toList_some, Option.toList_none, List.cons_append, List.nil_append]
    refine x_ifb_eq Z 22 dX4_differ_12 (by decide) (fun c12 => ?_) (fun c12 => ?_)
    ·
      have f12 := bq_f hq c12
      refine x_ib true Z dX4_differ_22 (by decide) ?_
      refine x_goto Z 27 dX4_differ_23 (by decide) ?_
      exact join27 _ (by first | exact ⟨fun _ => by omega, fun _ => rfl⟩ | exact ⟨fun h => absurd h (by decide), fun h => (h (by omega)).elim⟩)
    ·
      have f12 := bq_t hq c12
      refine x_iload_n Z dX4_differ_15 rfl rfl ?_
      refine x_callS Z okX4_isSign q1074 q1075 dX4_differ_16 (c_X4_isSign h0 htr (by assumption)) ⟨Nat.le_of_ble_eq_true rfl, Nat.le_of_ble_eq_true rfl, Nat.le_of_ble_eq_true rfl, Nat.le_of_ble_eq_true rfl⟩ rfl rfl (Nat.le_of_ble_eq_true rfl) (fun v9 w9 hR => ?_)
      obtain ⟨o9, rfl, e9, hq⟩ := hR
      refine x_ew e9 ?_
      simp only [Option.toList_some, Option.toList_none, List.cons_append, List.nil_append]
      refine x_ifb_ne Z 26 dX4_differ_19 (by decide) (fun c19 => ?_) (fun c19 => ?_)
      ·
        have f19 := bq_t hq c19
        refine x_ib false Z dX4_differ_26 (by decide) ?_
        exact join27 _ (by first | exact ⟨fun _ => by omega, fun _ => rfl⟩ | exact ⟨fun h => absurd h (by decide), fun h => (h (by omega)).elim⟩)
      ·
        have f19 := bq_f hq c19
        refine x_ib true Z dX4_differ_22 (by decide) ?_
        refine x_goto Z 27 dX4_differ_23 (by decide) ?_
        exact join27 _ (by first | exact ⟨fun _ => by omega, fun _ => rfl⟩ | exact ⟨fun h => absurd h (by decide), fun h => (h (by omega)).elim⟩)
