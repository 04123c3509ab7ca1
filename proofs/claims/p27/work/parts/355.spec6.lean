/-! spec6: walks, by program -/
theorem q603 : Cond.classLink RX2 116 RJ4 ∈ gT := gt_3 88 rfl rfl
theorem q604 : Cond.instantiable RJ4 4 ∈ gT := gt_3 89 rfl rfl
theorem q605 : Cond.methodLink RX2 118 yJ4_init_da8c8 ∈ gT := gt_3 90 rfl rfl
theorem q606 : Cond.instanceMethod yJ4_init_da8c8 ∈ gT := gt_3 91 rfl rfl
theorem q607 : Cond.code yJ4_init_da8c8 cJ4_init_da8c8 1 none ∈ gT := gt_3 92 rfl rfl
theorem q634 : Cond.methodLink RX2 119 yX2_appendNumber ∈ gT := gt_3 119 rfl rfl
theorem q635 : Cond.static yX2_appendNumber ∈ gT := gt_3 120 rfl rfl
theorem q636 : Cond.code yX2_appendNumber cX2_appendNumber 2 none ∈ gT := gt_3 121 rfl rfl
theorem q637 : Cond.methodLink RX2 207 yJ4_length_8abf5 ∈ gT := gt_3 122 rfl rfl
theorem q639 : Cond.selects RJ4 yJ4_length_8abf5 yJ4_length_8abf5 ∈ gT := gt_3 124 rfl rfl
theorem q644 : Cond.methodLink RX2 210 yJ4_append_cf468 ∈ gT := gt_3 129 rfl rfl
theorem q645 : Cond.instanceMethod yJ4_append_cf468 ∈ gT := gt_3 130 rfl rfl
theorem q646 : Cond.selects RJ4 yJ4_append_cf468 yJ4_append_cf468 ∈ gT := gt_3 131 rfl rfl
theorem q647 : Cond.code yJ4_append_cf468 cJ4_append_cf468 2 (some (.object "java/lang/StringBuilder")) ∈ gT := gt_3 132 rfl rfl
theorem q737 : Cond.methodLink RX2 213 yJ4_append_bf812 ∈ gT := gt_3 222 rfl rfl
theorem q738 : Cond.instanceMethod yJ4_append_bf812 ∈ gT := gt_3 223 rfl rfl
theorem q739 : Cond.selects RJ4 yJ4_append_bf812 yJ4_append_bf812 ∈ gT := gt_3 224 rfl rfl
theorem q740 : Cond.code yJ4_append_bf812 cJ4_append_bf812 2 (some (.object "java/lang/StringBuilder")) ∈ gT := gt_3 225 rfl rfl
theorem q771 : Cond.methodLink RX2 123 yJ4_toString_0e30d ∈ gT := gt_4 16 rfl rfl
theorem q772 : Cond.instanceMethod yJ4_toString_0e30d ∈ gT := gt_4 17 rfl rfl
theorem q773 : Cond.selects RJ4 yJ4_toString_0e30d yJ4_toString_0e30d ∈ gT := gt_4 18 rfl rfl
theorem q774 : Cond.code yJ4_toString_0e30d cJ4_toString_0e30d 1 (some (.object "java/lang/String")) ∈ gT := gt_4 19 rfl rfl
theorem q980 : Cond.methodLink RX2 151 yX2_isIn ∈ gT := gt_4 225 rfl rfl
theorem okJ4_append_bf812 : gOk yJ4_append_bf812 cJ4_append_bf812 2 (some (.object "java/lang/StringBuilder")) 1 := ⟨q740, q47, ⟨by decide +kernel, by decide +kernel⟩, by decide +kernel⟩
theorem okJ4_append_cf468 : gOk yJ4_append_cf468 cJ4_append_cf468 2 (some (.object "java/lang/StringBuilder")) 1 := ⟨q647, q47, ⟨by decide +kernel, by decide +kernel⟩, by decide +kernel⟩
theorem okJ4_init_da8c8 : gOk yJ4_init_da8c8 cJ4_init_da8c8 1 none 0 := ⟨q607, q47, ⟨by decide +kernel, by decide +kernel⟩, by decide +kernel⟩
theorem okJ4_toString_0e30d : gOk yJ4_toString_0e30d cJ4_toString_0e30d 1 (some (.object "java/lang/String")) 0 := ⟨q774, q47, ⟨by decide +kernel, by decide +kernel⟩, by decide +kernel⟩
theorem okX2_appendNumber : gOk yX2_appendNumber cX2_appendNumber 2 none 2 := ⟨q636, q36, ⟨by decide +kernel, by decide +kernel⟩, by decide +kernel⟩
def sbI (G : gK) (w : wd) (a : Nat) (n : Int) (w1 : wd) : Prop := ∃ v ml m C, sbS G w1 a v ml n m C ∧ w a = none ∧ w v = none ∧ fr (fun _ => False) w w1
theorem sbI.step {G : gK} {w w1 w2 : wd} {a v : Nat} {ml n n' : Int} {m : Nat} {C : Int → Int} (_ : sbS G w1 a v ml n m C) (ha : w a = none) (hv : w v = none) (hf : fr (fun _ => False) w w1) (h2 : sbW G w1 a v n' w2) : sbI G w a n' w2 := by
  obtain ⟨v2, ml2, m2, C2, hs2, hvv, hf2⟩ := h2
  refine ⟨v2, ml2, m2, C2, hs2, ha, ?_, fun q _ hn => ?_⟩
  · rcases hvv with e | e
    · rw [e]; exact hv
    · exact fr.none hf e (fun h => h)
  · have e1 := hf q (fun h => h) hn
    refine (hf2 q (fun h => ?_) (by rw [e1]; exact hn)).trans e1
    rcases h with h | h
    · exact hn (by rw [h]; exact ha)
    · exact hn (by rw [h]; exact hv)
theorem sbW.tr {G : gK} {w w1 w2 : wd} {a v v1 : Nat} {e : va_E} {n' : Int} (h1 : w1 a = some e) (hv : v1 = v ∨ w v1 = none) (hf : fr (sbP a v) w w1) (h2 : sbW G w1 a v1 n' w2) : sbW G w a v n' w2 := by
  obtain ⟨v2, ml2, m2, C2, hs2, hvv, hf2⟩ := h2
  refine ⟨v2, ml2, m2, C2, hs2, ?_, fun q hq hn => ?_⟩
  · rcases hvv with z | z
    · rw [z]; exact hv
    · by_cases hp : sbP a v v2
      · rcases hp with z1 | z1
        · rw [z1, h1] at z; cases z
        · exact Or.inl z1
      · exact Or.inr (fr.none hf z hp)
  · have e1 := hf q hq hn
    refine (hf2 q (fun h => ?_) (by rw [e1]; exact hn)).trans e1
    rcases h with h | h
    · exact hq (Or.inl h)
    · rcases hv with z | z
      · exact hq (Or.inr (h.trans z))
      · exact hn (by rw [h]; exact z)
theorem tX_fr {G : gK} {w w1 : wd} {a r bb : Nat} {n : Int} {C B : Int → Int} (h : tX G w a r bb n C B) (hf : fr (fun _ => False) w w1) : tX G w1 a r bb n C B := ⟨hf.at (fun h => h) h.1, hf.at (fun h => h) h.2.1, hf.at (fun h => h) h.2.2.1, h.2.2.2⟩
abbrev rmc_X2_appendNumber : Room := { frames := 10, cells := 4, slots := 536, locals := 191 }
set_option maxRecDepth 100000 in
theorem c_X2_appendNumber {l : Launch} {s0 : State} {G : gK} {w : wd} (h0 : gS0 s0) (htr : l.stackTraces = false) {a v : Nat} {ml n : Int} {m : Nat} {C : Int → Int} {x : Int} (hs : sbS G w a v ml n m C) (h1 : n + 4 ≤ 131) (h2 : 0 ≤ x) (h3 : x ≤ 255) : gM l s0 G yX2_appendNumber [Cond.code yX2_appendNumber cX2_appendNumber 2 none] rmc_X2_appendNumber [rv a, iv x] w (fun v9 w' => v9 = none ∧ ∃ n', n < n' ∧ n' ≤ n + 4 ∧ sbW G w a v n' w') (noX) := by
  refine g_of h0 htr (by decide +kernel) (Nat.le_of_ble_eq_true rfl) ?_
  intro b Z0 E
  have Z : gAm b l s0 G cX2_appendNumber RX2 2 rmc_X2_appendNumber := Z0
  refine x_el (L' := [(0, rv a), (1, iv x)]) rfl ?_
  obtain ⟨hsa, hsv, hsn, hsm, hs9⟩ := id hs
  have hdx := dgs_in x
  refine x_aload_n Z dX2_appendNumber_0 rfl rfl ?_
  refine x_callV (ci := 1) (C := RJ4) (T := TJ4) (N := 4) Z okJ4_length_8abf5 q637 q638 q639 rfl dX2_appendNumber_1 (c_J4_length_8abf5 h0 htr hs) hs.1 ⟨Nat.le_of_ble_eq_true rfl, Nat.le_of_ble_eq_true rfl, Nat.le_of_ble_eq_true rfl, Nat.le_of_ble_eq_true rfl⟩ rfl rfl (Nat.le_of_ble_eq_true rfl) (fun v9 w9 hR => ?_)
  obtain ⟨rfl, e9⟩ := hR
  refine x_ew e9 ?_
  simp only [Option.toList_some, Option.toList_none, List.cons_append, List.nil_append]
  refine x_if_le Z 14 dX2_appendNumber_4 (by decide) ⟨by omega, by omega⟩ (fun c4 => ?_) (fun c4 => ?_)
  ·
    refine x_aload_n Z dX2_appendNumber_14 rfl rfl ?_
    refine x_iload_n Z dX2_appendNumber_15 rfl rfl ?_
    refine x_callV (ci := 1) (C := RJ4) (T := TJ4) (N := 4) Z okJ4_append_bf812 q737 q738 q739 rfl dX2_appendNumber_16 (c_J4_append_bf812 h0 htr (by first | exact hs5 | exact hs) (by omega) (by omega) (by omega)) (by first | exact hs5.1 | exact hs.1) ⟨Nat.le_of_ble_eq_true rfl, Nat.le_of_ble_eq_true rfl, Nat.le_of_ble_eq_true rfl, Nat.le_of_ble_eq_true rfl⟩ rfl rfl (Nat.le_of_ble_eq_true rfl) (fun v9 w9 hR => ?_)
    obtain ⟨rfl, hW2⟩ := hR
    simp only [Option.toList_some, Option.toList_none, List.cons_append, List.nil_append]
    refine x_pop Z dX2_appendNumber_19 rfl ?_
    exact x_vret Z E (by first | exact ⟨rfl, _, by omega, by omega, sbW.tr hs5.1 hvv5 hf5 hW2⟩ | exact ⟨rfl, _, by omega, by omega, hW2⟩) dX2_appendNumber_20 (Nat.le_of_ble_eq_true rfl) (Nat.le_of_ble_eq_true rfl)
  ·
    refine x_aload_n Z dX2_appendNumber_7 rfl rfl ?_
    refine x_bipush Z dX2_appendNumber_8 (by decide +kernel) ?_
    refine x_callV (ci := 1) (C := RJ4) (T := TJ4) (N := 4) Z okJ4_append_cf468 q644 q645 q646 rfl dX2_appendNumber_10 (c_J4_append_cf468 h0 htr hs (by omega) (by omega) (by omega)) hs.1 ⟨Nat.le_of_ble_eq_true rfl, Nat.le_of_ble_eq_true rfl, Nat.le_of_ble_eq_true rfl, Nat.le_of_ble_eq_true rfl⟩ rfl rfl (Nat.le_of_ble_eq_true rfl) (fun v9 w9 hR => ?_)
    obtain ⟨rfl, hW⟩ := hR
    obtain ⟨v5, ml5, m5, C5, hs5, hvv5, hf5⟩ := id hW
    simp only [Option.toList_some, Option.toList_none, List.cons_append, List.nil_append]
    refine x_pop Z dX2_appendNumber_13 rfl ?_
    refine x_aload_n Z dX2_appendNumber_14 rfl rfl ?_
    refine x_iload_n Z dX2_appendNumber_15 rfl rfl ?_
    refine x_callV (ci := 1) (C := RJ4) (T := TJ4) (N := 4) Z okJ4_append_bf812 q737 q738 q739 rfl dX2_appendNumber_16 (c_J4_append_bf812 h0 htr (by first | exact hs5 | exact hs) (by omega) (by omega) (by omega)) (by first | exact hs5.1 | exact hs.1) ⟨Nat.le_of_ble_eq_true rfl, Nat.le_of_ble_eq_true rfl, Nat.le_of_ble_eq_true rfl, Nat.le_of_ble_eq_true rfl⟩ rfl rfl (Nat.le_of_ble_eq_true rfl) (fun v9 w9 hR => ?_)
    obtain ⟨rfl, hW2⟩ := hR
    simp only [Option.toList_some, Option.toList_none, List.cons_append, List.nil_append]
    refine x_pop Z dX2_appendNumber_19 rfl ?_
    exact x_vret Z E (by first | exact ⟨rfl, _, by omega, by omega, sbW.tr hs5.1 hvv5 hf5 hW2⟩ | exact ⟨rfl, _, by omega, by omega, hW2⟩) dX2_appendNumber_20 (Nat.le_of_ble_eq_true rfl) (Nat.le_of_ble_eq_true rfl)
abbrev rmc_X2_signs : Room := { frames := 11, cells := 126, slots := 16496, locals := 212 }
set_option maxRecDepth 100000 in
theorem c_X2_signs {l : Launch} {s0 : State} {G : gK} {w : wd} (h0 : gS0 s0) (htr : l.stackTraces = false) {K : kA} {M : kM} {t : Int} (hS : kS G w K M) (ht : inr t) : gM l s0 G yX2_signs [Cond.code yX2_signs cX2_signs 5 (some (.object "java/lang/String"))] rmc_X2_signs [rv K.1, iv t] w (fun v9 w' => (∃ q : Nat, v9 = some (rv q)) ∧ w' = w) (fun X w' => X = "java/lang/IndexOutOfBoundsException" ∧ w' = w) := by
  refine g_of h0 htr (by decide +kernel) (Nat.le_of_ble_eq_true rfl) ?_
  intro b Z0 E
  have Z : gAm b l s0 G cX2_signs RX2 5 rmc_X2_signs := Z0
  refine x_el (L' := [(0, rv K.1), (1, iv t)]) rfl ?_
  obtain ⟨hk1, ⟨f0, hk2, hk3⟩, hk4, hk5⟩ := id hS
  have hf0 : fr (kP K) w w := fr.rf
  refine x_aload_n Z dX2_signs_0 rfl rfl ?_
  refine x_iload_n Z dX2_signs_1 rfl rfl ?_
  refine x_callVx (ci := 3) (C := RX2) (T := TX2) (N := 4) Z okX2_textAt q313 q315 q3 rfl dX2_signs_2 (c_X2_textAt h0 htr hS (by assumption)) hS.1 ⟨Nat.le_of_ble_eq_true rfl, Nat.le_of_ble_eq_true rfl, Nat.le_of_ble_eq_true rfl, Nat.le_of_ble_eq_true rfl⟩ rfl rfl (Nat.le_of_ble_eq_true rfl) (fun X w9 hX => x_out Z E (⟨hX.1, hX.2.1⟩) (Nat.le_of_ble_eq_true rfl) (Nat.le_of_ble_eq_true rfl)) (fun v9 w9 hR => ?_)
  obtain ⟨⟨rfl, e9⟩, hp0t, hp3t⟩ := hR
  refine x_ew e9 ?_
  simp only [Option.toList_some, Option.toList_none, List.cons_append, List.nil_append]
  obtain ⟨B, ht⟩ := hS.2.2.1 t hp0t hp3t
  obtain ⟨ha, hr, hb, hn0, hn30, hC⟩ := id ht
  have hm0 := hn0
  have hm30 := hn30
  have hmC := hC
  refine x_astore_n (L' := [(2, _), (0, _), (1, _)]) Z dX2_signs_5 rfl (Nat.le_of_ble_eq_true rfl) rfl ?_
  refine x_new (ci := 1) (C := RJ4) (T := TJ4) (N := 4) (fs := [.null, iv 0, iv 0, iv 0]) Z tyJ4 tyJ4_ok inJ4g rfl q603 q604 q47 (fun j hj => by have h0 := hj; rcases (by omega : j = 0 ∨ j = 1 ∨ j = 2 ∨ j = 3) with rfl | rfl | rfl | rfl <;> (try rfl) <;> decide +kernel) (Nat.le_of_ble_eq_true rfl) (Nat.le_of_ble_eq_true rfl) dX2_signs_6 (fun n6 hn6 => ?_)
  refine x_gen fun w0 hw0 => ?_
  have hA0 : w0 n6 = some (eO 1 [.null, iv 0, iv 0, iv 0]) := by { rw [hw0, ws1_s] }
  have hf6 : fr (fun _ => False) w w0 := by { rw [hw0]; exact fr.rf.new hn6 }
  refine x_dup Z dX2_signs_9 rfl ?_
  refine x_callI Z okJ4_init_da8c8 q605 q606 rfl dX2_signs_10 (c_J4_init_da8c8 h0 htr hA0) ⟨Nat.le_of_ble_eq_true rfl, Nat.le_of_ble_eq_true rfl, Nat.le_of_ble_eq_true rfl, Nat.le_of_ble_eq_true rfl⟩ rfl rfl (Nat.le_of_ble_eq_true rfl) (fun v9 w9 hR => ?_)
  obtain ⟨rfl, v0, hs0, hv0, hf9⟩ := hR
  have hI0 : sbI G w n6 0 w9 := ⟨v0, _, _, _, hs0, hn6, fr.none hf6 hv0 (fun h => h), fr.tr2 hf6 hn6 hf9⟩
  simp only [Option.toList_some, Option.toList_none, List.cons_append, List.nil_append]
  refine x_astore_n (L' := [(3, _), (2, _), (0, _), (1, _)]) Z dX2_signs_13 rfl (Nat.le_of_ble_eq_true rfl) rfl ?_
  refine x_iconst Z dX2_signs_14 ?_
  refine x_istore (L' := [(4, _), (3, _), (2, _), (0, _), (1, _)]) Z dX2_signs_15 (Nat.le_of_ble_eq_true rfl) rfl ?_
  have loop17 : ∀ (fu : Nat) (i n1 : Int) (w1 : wd), M.1 t - i < (fu : Int) → (0 ≤ i ∧ i ≤ M.1 t ∧ 0 ≤ n1 ∧ n1 ≤ 4 * i ∧ sbI G w n6 n1 w1) → gX b s0 G (4 + 4 * i.toNat) (30 + 540 * i.toNat) 17 [(4, iv i), (3, rv n6), (2, rv (K.2.2.1 t)), (0, rv K.1), (1, iv t)] [] (w1) := by
    intro fu; induction fu with
    | zero => intro i n1 w1 hm hv; exact absurd hm (by omega)
    | succ fu ih17 =>
      intro i n1 w1 hm hv
      obtain ⟨hi0, hin, hn1, hn4, v, ml, m, Cb, hs, hna, hnv, hfz⟩ := hv
      have ht1 := tX_fr ht hfz
      have hCi := hC i
      have hki := kin_in (M.2.1 t i)
      have hsi := sb_in (M.2.1 t i)
      refine x_iload Z dX2_signs_17 rfl ?_
      refine x_aload_n Z dX2_signs_19 rfl rfl ?_
      refine x_callV (ci := 2) (C := RX1) (T := TX1) (N := 3) Z okX1_size q217 q218 q219 rfl dX2_signs_20 (c_X1_size h0 htr ht1) ht1.1 ⟨Nat.le_of_ble_eq_true rfl, Nat.le_of_ble_eq_true rfl, (by show _ + 0 ≤ 126; omega), (by show _ + 0 ≤ 16496; omega)⟩ rfl rfl (Nat.le_of_ble_eq_true rfl) (fun v9 w9 hR => ?_)
      obtain ⟨rfl, e9⟩ := hR
      refine x_ew e9 ?_
      simp only [Option.toList_some, Option.toList_none, List.cons_append, List.nil_append]
      refine x_icmp_ge Z 42 dX2_signs_23 (by decide) ⟨by omega, by omega⟩ ⟨by omega, by omega⟩ (fun c23 => ?_) (fun c23 => ?_)
      ·
        refine x_wd (k' := 124) (n' := 16230) (by omega) (by omega) ?_
        refine x_aload_n Z dX2_signs_42 rfl rfl ?_
        refine x_callV (ci := 1) (C := RJ4) (T := TJ4) (N := 4) Z okJ4_toString_0e30d q771 q772 q773 rfl dX2_signs_43 (c_J4_toString_0e30d h0 htr hs) hs.1 ⟨Nat.le_of_ble_eq_true rfl, Nat.le_of_ble_eq_true rfl, Nat.le_of_ble_eq_true rfl, Nat.le_of_ble_eq_true rfl⟩ rfl rfl (Nat.le_of_ble_eq_true rfl) (fun v9 w9 hR => ?_)
        obtain ⟨q9, rfl, hq9, hf9⟩ := hR
        simp only [Option.toList_some, Option.toList_none, List.cons_append, List.nil_append]
        refine x_fg (fr.sub (hfz.tr hf9)) ?_
        exact x_aret Z E (⟨⟨_, rfl⟩, rfl⟩) dX2_signs_46 (Nat.le_of_ble_eq_true rfl) (Nat.le_of_ble_eq_true rfl)
      ·
        refine x_aload_n Z dX2_signs_26 rfl rfl ?_
        refine x_aload_n Z dX2_signs_27 rfl rfl ?_
        refine x_iload Z dX2_signs_28 rfl ?_
        refine x_callV (ci := 2) (C := RX1) (T := TX1) (N := 3) Z okX1_signAt q365 q126 q127 rfl dX2_signs_30 (c_X1_signAt h0 htr ht1 (by omega) (by omega)) ht1.1 ⟨Nat.le_of_ble_eq_true rfl, Nat.le_of_ble_eq_true rfl, (by show _ + 0 ≤ 126; omega), (by show _ + 0 ≤ 16496; omega)⟩ rfl rfl (Nat.le_of_ble_eq_true rfl) (fun v9 w9 hR => ?_)
        obtain ⟨rfl, e9⟩ := hR
        refine x_ew e9 ?_
        simp only [Option.toList_some, Option.toList_none, List.cons_append, List.nil_append]
        refine x_callS Z okX2_appendNumber q634 q635 dX2_signs_33 (c_X2_appendNumber h0 htr hs (by omega) (by omega) (by omega)) ⟨Nat.le_of_ble_eq_true rfl, Nat.le_of_ble_eq_true rfl, (by show _ + 4 ≤ 126; omega), (by show _ + 536 ≤ 16496; omega)⟩ rfl rfl (Nat.le_of_ble_eq_true rfl) (fun v9 w9 hR => ?_)
        obtain ⟨rfl, n9, hn9a, hn9b, hW⟩ := hR
        simp only [Option.toList_some, Option.toList_none, List.cons_append, List.nil_append]
        refine x_iinc (L' := [(4, _), (3, _), (2, _), (0, _), (1, _)]) Z dX2_signs_36 rfl (Nat.le_of_ble_eq_true rfl) rfl ?_
        refine x_goto Z 17 dX2_signs_39 (by decide) ?_
        refine x_wd (k' := 4 + 4 * (i + 1).toNat) (n' := 30 + 540 * (i + 1).toNat) (by omega) (by omega) ?_
        exact ih17 (i + 1) n9 _ (by omega) ⟨by omega, by omega, by omega, by omega, sbI.step hs hna hnv hfz hW⟩
  refine x_wd (k' := 4 + 4 * (0 : Int).toNat) (n' := 30 + 540 * (0 : Int).toNat) (Nat.le_of_ble_eq_true rfl) (Nat.le_of_ble_eq_true rfl) ?_
  exact loop17 40 0 0 _ (by omega) ⟨by omega, by omega, by omega, by omega, hI0⟩
abbrev rmc_X2_kindsOf : Room := { frames := 11, cells := 126, slots := 16496, locals := 212 }
set_option maxRecDepth 100000 in
theorem c_X2_kindsOf {l : Launch} {s0 : State} {G : gK} {w : wd} (h0 : gS0 s0) (htr : l.stackTraces = false) {K : kA} {M : kM} {t : Int} (hS : kS G w K M) (ht : inr t) : gM l s0 G yX2_kindsOf [Cond.code yX2_kindsOf cX2_kindsOf 5 (some (.object "java/lang/String"))] rmc_X2_kindsOf [rv K.1, iv t] w (fun v9 w' => (∃ q : Nat, v9 = some (rv q)) ∧ w' = w) (fun X w' => X = "java/lang/IndexOutOfBoundsException" ∧ w' = w) := by
  refine g_of h0 htr (by decide +kernel) (Nat.le_of_ble_eq_true rfl) ?_
  intro b Z0 E
  have Z : gAm b l s0 G cX2_kindsOf RX2 5 rmc_X2_kindsOf := Z0
  refine x_el (L' := [(0, rv K.1), (1, iv t)]) rfl ?_
  obtain ⟨hk1, ⟨f0, hk2, hk3⟩, hk4, hk5⟩ := id hS
  have hf0 : fr (kP K) w w := fr.rf
  refine x_aload_n Z dX2_kindsOf_0 rfl rfl ?_
  refine x_iload_n Z dX2_kindsOf_1 rfl rfl ?_
  refine x_callVx (ci := 3) (C := RX2) (T := TX2) (N := 4) Z okX2_textAt q313 q315 q3 rfl dX2_kindsOf_2 (c_X2_textAt h0 htr hS (by assumption)) hS.1 ⟨Nat.le_of_ble_eq_true rfl, Nat.le_of_ble_eq_true rfl, Nat.le_of_ble_eq_true rfl, Nat.le_of_ble_eq_true rfl⟩ rfl rfl (Nat.le_of_ble_eq_true rfl) (fun X w9 hX => x_out Z E (⟨hX.1, hX.2.1⟩) (Nat.le_of_ble_eq_true rfl) (Nat.le_of_ble_eq_true rfl)) (fun v9 w9 hR => ?_)
  obtain ⟨⟨rfl, e9⟩, hp0t, hp3t⟩ := hR
  refine x_ew e9 ?_
  simp only [Option.toList_some, Option.toList_none, List.cons_append, List.nil_append]
  obtain ⟨B, ht⟩ := hS.2.2.1 t hp0t hp3t
  obtain ⟨ha, hr, hb, hn0, hn30, hC⟩ := id ht
  have hm0 := hn0
  have hm30 := hn30
  have hmC := hC
  refine x_astore_n (L' := [(2, _), (0, _), (1, _)]) Z dX2_kindsOf_5 rfl (Nat.le_of_ble_eq_true rfl) rfl ?_
  refine x_new (ci := 1) (C := RJ4) (T := TJ4) (N := 4) (fs := [.null, iv 0, iv 0, iv 0]) Z tyJ4 tyJ4_ok inJ4g rfl q603 q604 q47 (fun j hj => by have h0 := hj; rcases (by omega : j = 0 ∨ j = 1 ∨ j = 2 ∨ j = 3) with rfl | rfl | rfl | rfl <;> (try rfl) <;> decide +kernel) (Nat.le_of_ble_eq_true rfl) (Nat.le_of_ble_eq_true rfl) dX2_kindsOf_6 (fun n6 hn6 => ?_)
  refine x_gen fun w0 hw0 => ?_
  have hA0 : w0 n6 = some (eO 1 [.null, iv 0, iv 0, iv 0]) := by { rw [hw0, ws1_s] }
  have hf6 : fr (fun _ => False) w w0 := by { rw [hw0]; exact fr.rf.new hn6 }
  refine x_dup Z dX2_kindsOf_9 rfl ?_
  refine x_callI Z okJ4_init_da8c8 q605 q606 rfl dX2_kindsOf_10 (c_J4_init_da8c8 h0 htr hA0) ⟨Nat.le_of_ble_eq_true rfl, Nat.le_of_ble_eq_true rfl, Nat.le_of_ble_eq_true rfl, Nat.le_of_ble_eq_true rfl⟩ rfl rfl (Nat.le_of_ble_eq_true rfl) (fun v9 w9 hR => ?_)
  obtain ⟨rfl, v0, hs0, hv0, hf9⟩ := hR
  have hI0 : sbI G w n6 0 w9 := ⟨v0, _, _, _, hs0, hn6, fr.none hf6 hv0 (fun h => h), fr.tr2 hf6 hn6 hf9⟩
  simp only [Option.toList_some, Option.toList_none, List.cons_append, List.nil_append]
  refine x_astore_n (L' := [(3, _), (2, _), (0, _), (1, _)]) Z dX2_kindsOf_13 rfl (Nat.le_of_ble_eq_true rfl) rfl ?_
  refine x_iconst Z dX2_kindsOf_14 ?_
  refine x_istore (L' := [(4, _), (3, _), (2, _), (0, _), (1, _)]) Z dX2_kindsOf_15 (Nat.le_of_ble_eq_true rfl) rfl ?_
  have loop17 : ∀ (fu : Nat) (i n1 : Int) (w1 : wd), M.1 t - i < (fu : Int) → (0 ≤ i ∧ i ≤ M.1 t ∧ 0 ≤ n1 ∧ n1 ≤ 4 * i ∧ sbI G w n6 n1 w1) → gX b s0 G (4 + 4 * i.toNat) (30 + 540 * i.toNat) 17 [(4, iv i), (3, rv n6), (2, rv (K.2.2.1 t)), (0, rv K.1), (1, iv t)] [] (w1) := by
    intro fu; induction fu with
    | zero => intro i n1 w1 hm hv; exact absurd hm (by omega)
    | succ fu ih17 =>
      intro i n1 w1 hm hv
      obtain ⟨hi0, hin, hn1, hn4, v, ml, m, Cb, hs, hna, hnv, hfz⟩ := hv
      have ht1 := tX_fr ht hfz
      have hCi := hC i
      have hki := kin_in (M.2.1 t i)
      have hsi := sb_in (M.2.1 t i)
      refine x_iload Z dX2_kindsOf_17 rfl ?_
      refine x_aload_n Z dX2_kindsOf_19 rfl rfl ?_
      refine x_callV (ci := 2) (C := RX1) (T := TX1) (N := 3) Z okX1_size q217 q218 q219 rfl dX2_kindsOf_20 (c_X1_size h0 htr ht1) ht1.1 ⟨Nat.le_of_ble_eq_true rfl, Nat.le_of_ble_eq_true rfl, (by show _ + 0 ≤ 126; omega), (by show _ + 0 ≤ 16496; omega)⟩ rfl rfl (Nat.le_of_ble_eq_true rfl) (fun v9 w9 hR => ?_)
      obtain ⟨rfl, e9⟩ := hR
      refine x_ew e9 ?_
      simp only [Option.toList_some, Option.toList_none, List.cons_append, List.nil_append]
      refine x_icmp_ge Z 42 dX2_kindsOf_23 (by decide) ⟨by omega, by omega⟩ ⟨by omega, by omega⟩ (fun c23 => ?_) (fun c23 => ?_)
      ·
        refine x_wd (k' := 124) (n' := 16230) (by omega) (by omega) ?_
        refine x_aload_n Z dX2_kindsOf_42 rfl rfl ?_
        refine x_callV (ci := 1) (C := RJ4) (T := TJ4) (N := 4) Z okJ4_toString_0e30d q771 q772 q773 rfl dX2_kindsOf_43 (c_J4_toString_0e30d h0 htr hs) hs.1 ⟨Nat.le_of_ble_eq_true rfl, Nat.le_of_ble_eq_true rfl, Nat.le_of_ble_eq_true rfl, Nat.le_of_ble_eq_true rfl⟩ rfl rfl (Nat.le_of_ble_eq_true rfl) (fun v9 w9 hR => ?_)
        obtain ⟨q9, rfl, hq9, hf9⟩ := hR
        simp only [Option.toList_some, Option.toList_none, List.cons_append, List.nil_append]
        refine x_fg (fr.sub (hfz.tr hf9)) ?_
        exact x_aret Z E (⟨⟨_, rfl⟩, rfl⟩) dX2_kindsOf_46 (Nat.le_of_ble_eq_true rfl) (Nat.le_of_ble_eq_true rfl)
      ·
        refine x_aload_n Z dX2_kindsOf_26 rfl rfl ?_
        refine x_aload_n Z dX2_kindsOf_27 rfl rfl ?_
        refine x_iload Z dX2_kindsOf_28 rfl ?_
        refine x_callV (ci := 2) (C := RX1) (T := TX1) (N := 3) Z okX1_kindAt q887 q201 q202 rfl dX2_kindsOf_30 (c_X1_kindAt h0 htr ht1 (by omega) (by omega)) ht1.1 ⟨Nat.le_of_ble_eq_true rfl, Nat.le_of_ble_eq_true rfl, (by show _ + 0 ≤ 126; omega), (by show _ + 0 ≤ 16496; omega)⟩ rfl rfl (Nat.le_of_ble_eq_true rfl) (fun v9 w9 hR => ?_)
        obtain ⟨rfl, e9⟩ := hR
        refine x_ew e9 ?_
        simp only [Option.toList_some, Option.toList_none, List.cons_append, List.nil_append]
        refine x_callS Z okX2_appendNumber q634 q635 dX2_kindsOf_33 (c_X2_appendNumber h0 htr hs (by omega) (by omega) (by omega)) ⟨Nat.le_of_ble_eq_true rfl, Nat.le_of_ble_eq_true rfl, (by show _ + 4 ≤ 126; omega), (by show _ + 536 ≤ 16496; omega)⟩ rfl rfl (Nat.le_of_ble_eq_true rfl) (fun v9 w9 hR => ?_)
        obtain ⟨rfl, n9, hn9a, hn9b, hW⟩ := hR
        simp only [Option.toList_some, Option.toList_none, List.cons_append, List.nil_append]
        refine x_iinc (L' := [(4, _), (3, _), (2, _), (0, _), (1, _)]) Z dX2_kindsOf_36 rfl (Nat.le_of_ble_eq_true rfl) rfl ?_
        refine x_goto Z 17 dX2_kindsOf_39 (by decide) ?_
        refine x_wd (k' := 4 + 4 * (i + 1).toNat) (n' := 30 + 540 * (i + 1).toNat) (by omega) (by omega) ?_
        exact ih17 (i + 1) n9 _ (by omega) ⟨by omega, by omega, by omega, by omega, sbI.step hs hna hnv hfz hW⟩
  refine x_wd (k' := 4 + 4 * (0 : Int).toNat) (n' := 30 + 540 * (0 : Int).toNat) (Nat.le_of_ble_eq_true rfl) (Nat.le_of_ble_eq_true rfl) ?_
  exact loop17 40 0 0 _ (by omega) ⟨by omega, by omega, by omega, by omega, hI0⟩
abbrev rmc_X2_sorts : Room := { frames := 11, cells := 126, slots := 16496, locals := 212 }
set_option maxRecDepth 100000 in
theorem c_X2_sorts {l : Launch} {s0 : State} {G : gK} {w : wd} (h0 : gS0 s0) (htr : l.stackTraces = false) {K : kA} {M : kM} {t : Int} (hS : kS G w K M) (ht : inr t) : gM l s0 G yX2_sorts [Cond.code yX2_sorts cX2_sorts 6 (some (.object "java/lang/String"))] rmc_X2_sorts [rv K.1, iv t] w (fun v9 w' => (∃ q : Nat, v9 = some (rv q)) ∧ w' = w) (fun X w' => X = "java/lang/IndexOutOfBoundsException" ∧ w' = w) := by
  refine g_of h0 htr (by decide +kernel) (Nat.le_of_ble_eq_true rfl) ?_
  intro b Z0 E
  have Z : gAm b l s0 G cX2_sorts RX2 6 rmc_X2_sorts := Z0
  refine x_el (L' := [(0, rv K.1), (1, iv t)]) rfl ?_
  obtain ⟨hk1, ⟨f0, hk2, hk3⟩, hk4, hk5⟩ := id hS
  have hf0 : fr (kP K) w w := fr.rf
  refine x_aload_n Z dX2_sorts_0 rfl rfl ?_
  refine x_iload_n Z dX2_sorts_1 rfl rfl ?_
  refine x_callVx (ci := 3) (C := RX2) (T := TX2) (N := 4) Z okX2_textAt q313 q315 q3 rfl dX2_sorts_2 (c_X2_textAt h0 htr hS (by assumption)) hS.1 ⟨Nat.le_of_ble_eq_true rfl, Nat.le_of_ble_eq_true rfl, Nat.le_of_ble_eq_true rfl, Nat.le_of_ble_eq_true rfl⟩ rfl rfl (Nat.le_of_ble_eq_true rfl) (fun X w9 hX => x_out Z E (⟨hX.1, hX.2.1⟩) (Nat.le_of_ble_eq_true rfl) (Nat.le_of_ble_eq_true rfl)) (fun v9 w9 hR => ?_)
  obtain ⟨⟨rfl, e9⟩, hp0t, hp3t⟩ := hR
  refine x_ew e9 ?_
  simp only [Option.toList_some, Option.toList_none, List.cons_append, List.nil_append]
  obtain ⟨B, ht⟩ := hS.2.2.1 t hp0t hp3t
  obtain ⟨ha, hr, hb, hn0, hn30, hC⟩ := id ht
  have hm0 := hn0
  have hm30 := hn30
  have hmC := hC
  refine x_astore_n (L' := [(2, _), (0, _), (1, _)]) Z dX2_sorts_5 rfl (Nat.le_of_ble_eq_true rfl) rfl ?_
  refine x_aload_n Z dX2_sorts_6 rfl rfl ?_
  refine x_callV (ci := 2) (C := RX1) (T := TX1) (N := 3) Z okX1_begins q964 q118 q119 rfl dX2_sorts_7 (c_X1_begins h0 htr ht) ht.1 ⟨Nat.le_of_ble_eq_true rfl, Nat.le_of_ble_eq_true rfl, Nat.le_of_ble_eq_true rfl, Nat.le_of_ble_eq_true rfl⟩ rfl rfl (Nat.le_of_ble_eq_true rfl) (fun v9 w9 hR => ?_)
  obtain ⟨rfl, e9⟩ := hR
  refine x_ew e9 ?_
  simp only [Option.toList_some, Option.toList_none, List.cons_append, List.nil_append]
  refine x_istore_n (L' := [(3, _), (2, _), (0, _), (1, _)]) Z dX2_sorts_10 rfl (Nat.le_of_ble_eq_true rfl) rfl ?_
  refine x_new (ci := 1) (C := RJ4) (T := TJ4) (N := 4) (fs := [.null, iv 0, iv 0, iv 0]) Z tyJ4 tyJ4_ok inJ4g rfl q603 q604 q47 (fun j hj => by have h0 := hj; rcases (by omega : j = 0 ∨ j = 1 ∨ j = 2 ∨ j = 3) with rfl | rfl | rfl | rfl <;> (try rfl) <;> decide +kernel) (Nat.le_of_ble_eq_true rfl) (Nat.le_of_ble_eq_true rfl) dX2_sorts_11 (fun n11 hn11 => ?_)
  refine x_gen fun w0 hw0 => ?_
  have hA0 : w0 n11 = some (eO 1 [.null, iv 0, iv 0, iv 0]) := by { rw [hw0, ws1_s] }
  have hf6 : fr (fun _ => False) w w0 := by { rw [hw0]; exact fr.rf.new hn11 }
  refine x_dup Z dX2_sorts_14 rfl ?_
  refine x_callI Z okJ4_init_da8c8 q605 q606 rfl dX2_sorts_15 (c_J4_init_da8c8 h0 htr hA0) ⟨Nat.le_of_ble_eq_true rfl, Nat.le_of_ble_eq_true rfl, Nat.le_of_ble_eq_true rfl, Nat.le_of_ble_eq_true rfl⟩ rfl rfl (Nat.le_of_ble_eq_true rfl) (fun v9 w9 hR => ?_)
  obtain ⟨rfl, v0, hs0, hv0, hf9⟩ := hR
  have hI0 : sbI G w n11 0 w9 := ⟨v0, _, _, _, hs0, hn11, fr.none hf6 hv0 (fun h => h), fr.tr2 hf6 hn11 hf9⟩
  simp only [Option.toList_some, Option.toList_none, List.cons_append, List.nil_append]
  refine x_astore (L' := [(4, _), (3, _), (2, _), (0, _), (1, _)]) Z dX2_sorts_18 (Nat.le_of_ble_eq_true rfl) rfl ?_
  refine x_iconst Z dX2_sorts_20 ?_
  refine x_istore (L' := [(5, _), (4, _), (3, _), (2, _), (0, _), (1, _)]) Z dX2_sorts_21 (Nat.le_of_ble_eq_true rfl) rfl ?_
  have loop23 : ∀ (fu : Nat) (i n1 : Int) (w1 : wd), M.1 t - i < (fu : Int) → (0 ≤ i ∧ i ≤ M.1 t ∧ 0 ≤ n1 ∧ n1 ≤ 4 * i ∧ sbI G w n11 n1 w1) → gX b s0 G (4 + 4 * i.toNat) (30 + 540 * i.toNat) 23 [(5, iv i), (4, rv n11), (3, iv (beg (M.1 t) (M.2.1 t))), (2, rv (K.2.2.1 t)), (0, rv K.1), (1, iv t)] [] (w1) := by
    intro fu; induction fu with
    | zero => intro i n1 w1 hm hv; exact absurd hm (by omega)
    | succ fu ih23 =>
      intro i n1 w1 hm hv
      obtain ⟨hi0, hin, hn1, hn4, v, ml, m, Cb, hs, hna, hnv, hfz⟩ := hv
      have ht1 := tX_fr ht hfz
      have hCi := hC i
      have hki := kin_in (M.2.1 t i)
      have hsi := sb_in (M.2.1 t i)
      refine x_iload Z dX2_sorts_23 rfl ?_
      refine x_aload_n Z dX2_sorts_25 rfl rfl ?_
      refine x_callV (ci := 2) (C := RX1) (T := TX1) (N := 3) Z okX1_size q217 q218 q219 rfl dX2_sorts_26 (c_X1_size h0 htr ht1) ht1.1 ⟨Nat.le_of_ble_eq_true rfl, Nat.le_of_ble_eq_true rfl, (by show _ + 0 ≤ 126; omega), (by show _ + 0 ≤ 16496; omega)⟩ rfl rfl (Nat.le_of_ble_eq_true rfl) (fun v9 w9 hR => ?_)
      obtain ⟨rfl, e9⟩ := hR
      refine x_ew e9 ?_
      simp only [Option.toList_some, Option.toList_none, List.cons_append, List.nil_append]
      refine x_icmp_ge Z 61 dX2_sorts_29 (by decide) ⟨by omega, by omega⟩ ⟨by omega, by omega⟩ (fun c29 => ?_) (fun c29 => ?_)
      ·
        refine x_wd (k' := 124) (n' := 16230) (by omega) (by omega) ?_
        refine x_aload Z dX2_sorts_61 rfl ?_
        refine x_callV (ci := 1) (C := RJ4) (T := TJ4) (N := 4) Z okJ4_toString_0e30d q771 q772 q773 rfl dX2_sorts_63 (c_J4_toString_0e30d h0 htr hs) hs.1 ⟨Nat.le_of_ble_eq_true rfl, Nat.le_of_ble_eq_true rfl, Nat.le_of_ble_eq_true rfl, Nat.le_of_ble_eq_true rfl⟩ rfl rfl (Nat.le_of_ble_eq_true rfl) (fun v9 w9 hR => ?_)
        obtain ⟨q9, rfl, hq9, hf9⟩ := hR
        simp only [Option.toList_some, Option.toList_none, List.cons_append, List.nil_append]
        refine x_fg (fr.sub (hfz.tr hf9)) ?_
        exact x_aret Z E (⟨⟨_, rfl⟩, rfl⟩) dX2_sorts_66 (Nat.le_of_ble_eq_true rfl) (Nat.le_of_ble_eq_true rfl)
      ·
        refine x_iload_n Z dX2_sorts_32 rfl rfl ?_
        refine x_iload Z dX2_sorts_33 rfl ?_
        refine x_callS Z okX2_isIn q980 q140 dX2_sorts_35 (c_X2_isIn h0 htr ) ⟨Nat.le_of_ble_eq_true rfl, Nat.le_of_ble_eq_true rfl, (by show _ + 0 ≤ 126; omega), (by show _ + 0 ≤ 16496; omega)⟩ rfl rfl (Nat.le_of_ble_eq_true rfl) (fun v9 w9 hR => ?_)
        obtain ⟨rfl, e9⟩ := hR
        refine x_ew e9 ?_
        simp only [Option.toList_some, Option.toList_none, List.cons_append, List.nil_append]
        refine x_ifb_eq Z 55 dX2_sorts_38 (by decide) (fun c38 => ?_) (fun c38 => ?_)
        ·
          refine x_iinc (L' := [(5, _), (4, _), (3, _), (2, _), (0, _), (1, _)]) Z dX2_sorts_55 rfl (Nat.le_of_ble_eq_true rfl) rfl ?_
          refine x_goto Z 23 dX2_sorts_58 (by decide) ?_
          refine x_wd (k' := 4 + 4 * (i + 1).toNat) (n' := 30 + 540 * (i + 1).toNat) (by omega) (by omega) ?_
          first | exact ih23 (i + 1) n9 _ (by omega) ⟨by omega, by omega, by omega, by omega, sbI.step hs hna hnv hfz hW⟩ | exact ih23 (i + 1) n1 _ (by omega) ⟨by omega, by omega, by omega, by omega, v, ml, m, Cb, hs, hna, hnv, hfz⟩
        ·
          refine x_aload Z dX2_sorts_41 rfl ?_
          refine x_aload_n Z dX2_sorts_43 rfl rfl ?_
          refine x_iload Z dX2_sorts_44 rfl ?_
          refine x_callV (ci := 2) (C := RX1) (T := TX1) (N := 3) Z okX1_signAt q365 q126 q127 rfl dX2_sorts_46 (c_X1_signAt h0 htr ht1 (by omega) (by omega)) ht1.1 ⟨Nat.le_of_ble_eq_true rfl, Nat.le_of_ble_eq_true rfl, (by show _ + 0 ≤ 126; omega), (by show _ + 0 ≤ 16496; omega)⟩ rfl rfl (Nat.le_of_ble_eq_true rfl) (fun v9 w9 hR => ?_)
          obtain ⟨rfl, e9⟩ := hR
          refine x_ew e9 ?_
          simp only [Option.toList_some, Option.toList_none, List.cons_append, List.nil_append]
          refine x_callS Z okX0_sortBegunBy q972 q130 dX2_sorts_49 (c_X0_sortBegunBy h0 htr (by omega) (by omega)) ⟨Nat.le_of_ble_eq_true rfl, Nat.le_of_ble_eq_true rfl, (by show _ + 0 ≤ 126; omega), (by show _ + 0 ≤ 16496; omega)⟩ rfl rfl (Nat.le_of_ble_eq_true rfl) (fun v9 w9 hR => ?_)
          obtain ⟨rfl, e9⟩ := hR
          refine x_ew e9 ?_
          simp only [Option.toList_some, Option.toList_none, List.cons_append, List.nil_append]
          refine x_callS Z okX2_appendNumber q634 q635 dX2_sorts_52 (c_X2_appendNumber h0 htr hs (by omega) (by omega) (by omega)) ⟨Nat.le_of_ble_eq_true rfl, Nat.le_of_ble_eq_true rfl, (by show _ + 4 ≤ 126; omega), (by show _ + 536 ≤ 16496; omega)⟩ rfl rfl (Nat.le_of_ble_eq_true rfl) (fun v9 w9 hR => ?_)
          obtain ⟨rfl, n9, hn9a, hn9b, hW⟩ := hR
          simp only [Option.toList_some, Option.toList_none, List.cons_append, List.nil_append]
          refine x_iinc (L' := [(5, _), (4, _), (3, _), (2, _), (0, _), (1, _)]) Z dX2_sorts_55 rfl (Nat.le_of_ble_eq_true rfl) rfl ?_
          refine x_goto Z 23 dX2_sorts_58 (by decide) ?_
          refine x_wd (k' := 4 + 4 * (i + 1).toNat) (n' := 30 + 540 * (i + 1).toNat) (by omega) (by omega) ?_
          first | exact ih23 (i + 1) n9 _ (by omega) ⟨by omega, by omega, by omega, by omega, sbI.step hs hna hnv hfz hW⟩ | exact ih23 (i + 1) n1 _ (by omega) ⟨by omega, by omega, by omega, by omega, v, ml, m, Cb, hs, hna, hnv, hfz⟩
  refine x_wd (k' := 4 + 4 * (0 : Int).toNat) (n' := 30 + 540 * (0 : Int).toNat) (Nat.le_of_ble_eq_true rfl) (Nat.le_of_ble_eq_true rfl) ?_
  exact loop23 40 0 0 _ (by omega) ⟨by omega, by omega, by omega, by omega, hI0⟩
