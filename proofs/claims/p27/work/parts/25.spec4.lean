/-! spec4: walks, by program -/
theorem q108 : Cond.methodLink RX2 106 yX0_kindNumber ∈ gT := gt_1 73 rfl rfl
theorem q508 : Cond.methodLink RX2 109 yX0_isSo ∈ gT := gt_2 233 rfl rfl
theorem q544 : Cond.methodLink RX2 113 yX2_checkSpan ∈ gT := gt_3 29 rfl rfl
theorem q545 : Cond.static yX2_checkSpan ∈ gT := gt_3 30 rfl rfl
theorem q546 : Cond.code yX2_checkSpan cX2_checkSpan 2 none ∈ gT := gt_3 31 rfl rfl
theorem okX2_checkSpan : gOk yX2_checkSpan cX2_checkSpan 2 none 2 := ⟨q546, q36, ⟨by decide +kernel, by decide +kernel⟩, by decide +kernel⟩
/-- the sign of a kind with so many lesser ones -/
def nthF (k : Int) : Nat → Int → Int → Int
  | 0, _, _ => -1
  | f + 1, i, r => if kin i = k then (if r = 0 then i else nthF k f (i + 1) (r - 1)) else nthF k f (i + 1) r
def nthI (k i r : Int) : Int := nthF k (256 - i).toNat i r
theorem nthI_s {k i r : Int} (h : i < 256) : nthI k i r = if kin i = k then (if r = 0 then i else nthI k (i + 1) (r - 1)) else nthI k (i + 1) r := by
  unfold nthI
  rw [show (256 - i).toNat = (256 - (i + 1)).toNat + 1 by omega]
  rfl
theorem nthI_h {k i r : Int} (h : i < 256) (e : kin i = k) (hr : r ≠ 0) : nthI k i r = nthI k (i + 1) (r - 1) := by rw [nthI_s h, if_pos e, if_neg hr]
theorem nthI_0 {k i r : Int} (h : i < 256) (e : kin i = k) (hr : r = 0) : nthI k i r = i := by rw [nthI_s h, if_pos e, if_pos hr]
theorem nthI_n {k i r : Int} (h : i < 256) (e : kin i ≠ k) : nthI k i r = nthI k (i + 1) r := by rw [nthI_s h, if_neg e]
theorem nthI_e {k i r : Int} (h : 256 ≤ i) : nthI k i r = -1 := by
  unfold nthI
  rw [show (256 - i).toNat = 0 by omega]
  rfl
abbrev rmc_X2_kind : Room := { frames := 7, cells := 1, slots := 6, locals := 120 }
set_option maxRecDepth 100000 in
theorem c_X2_kind {l : Launch} {s0 : State} {G : gK} {w : wd} (h0 : gS0 s0) (htr : l.stackTraces = false) {K : kA} {M : kM} {s : Int} (hS : kS G w K M) (hs : inr s) : gM l s0 G yX2_kind [Cond.code yX2_kind cX2_kind 2 (some .int)] rmc_X2_kind [rv K.1, iv s] w (fun v w' => (v = some (iv (kin s)) ∧ w' = w) ∧ (0 ≤ s ∧ s < 256)) (fun X w' => X = "java/lang/IllegalArgumentException" ∧ w' = w ∧ ¬ (0 ≤ s ∧ s < 256)) := by
  refine g_of h0 htr (by decide +kernel) (Nat.le_of_ble_eq_true rfl) ?_
  intro b Z0 E
  have Z : gAm b l s0 G cX2_kind RX2 2 rmc_X2_kind := Z0
  refine x_el (L' := [(0, rv K.1), (1, iv s)]) rfl ?_
  refine x_iload_n Z dX2_kind_0 rfl rfl ?_
  refine x_callSx Z okX2_checkSign q332 q333 dX2_kind_1 (c_X2_checkSign h0 htr (by assumption)) ⟨Nat.le_of_ble_eq_true rfl, Nat.le_of_ble_eq_true rfl, Nat.le_of_ble_eq_true rfl, Nat.le_of_ble_eq_true rfl⟩ rfl rfl (Nat.le_of_ble_eq_true rfl) (fun X w9 hX => x_out Z E (⟨hX.1, hX.2.1, fun h => hX.2.2 (by omega)⟩) (Nat.le_of_ble_eq_true rfl) (Nat.le_of_ble_eq_true rfl)) (fun v9 w9 hR => ?_)
  obtain ⟨⟨rfl, e9⟩, z0, z9⟩ := hR
  refine x_ew e9 ?_
  simp only [Option.toList_some, Option.toList_none, List.cons_append, List.nil_append]
  refine x_iload_n Z dX2_kind_4 rfl rfl ?_
  refine x_callS Z okX0_kindNumber q108 q109 dX2_kind_5 (c_X0_kindNumber h0 htr (by omega) (by omega)) ⟨Nat.le_of_ble_eq_true rfl, Nat.le_of_ble_eq_true rfl, Nat.le_of_ble_eq_true rfl, Nat.le_of_ble_eq_true rfl⟩ rfl rfl (Nat.le_of_ble_eq_true rfl) (fun v9 w9 hR => ?_)
  obtain ⟨rfl, e9⟩ := hR
  refine x_ew e9 ?_
  simp only [Option.toList_some, Option.toList_none, List.cons_append, List.nil_append]
  exact x_iret Z E (⟨⟨rfl, rfl⟩, by omega⟩) dX2_kind_8 (Nat.le_of_ble_eq_true rfl) (Nat.le_of_ble_eq_true rfl)
abbrev rmc_X2_ask : Room := { frames := 7, cells := 2, slots := 12, locals := 120 }
set_option maxRecDepth 100000 in
theorem c_X2_ask {l : Launch} {s0 : State} {G : gK} {w : wd} (h0 : gS0 s0) (htr : l.stackTraces = false) {K : kA} {M : kM} {s : Int} {q : Int} (hS : kS G w K M) (hs : inr s) (hq : inr q) : gM l s0 G yX2_ask [Cond.code yX2_ask cX2_ask 3 (some .boolean)] rmc_X2_ask [rv K.1, iv s, iv q] w (fun v w' => (v = some (iv (b2 (so s q))) ∧ w' = w) ∧ ((0 ≤ s ∧ s < 256) ∧ (0 ≤ q ∧ q < 14))) (fun X w' => X = "java/lang/IllegalArgumentException" ∧ w' = w ∧ ¬ ((0 ≤ s ∧ s < 256) ∧ (0 ≤ q ∧ q < 14))) := by
  refine g_of h0 htr (by decide +kernel) (Nat.le_of_ble_eq_true rfl) ?_
  intro b Z0 E
  have Z : gAm b l s0 G cX2_ask RX2 3 rmc_X2_ask := Z0
  refine x_el (L' := [(0, rv K.1), (1, iv s), (2, iv q)]) rfl ?_
  refine x_iload_n Z dX2_ask_0 rfl rfl ?_
  refine x_callSx Z okX2_checkSign q332 q333 dX2_ask_1 (c_X2_checkSign h0 htr (by assumption)) ⟨Nat.le_of_ble_eq_true rfl, Nat.le_of_ble_eq_true rfl, Nat.le_of_ble_eq_true rfl, Nat.le_of_ble_eq_true rfl⟩ rfl rfl (Nat.le_of_ble_eq_true rfl) (fun X w9 hX => x_out Z E (⟨hX.1, hX.2.1, fun h => hX.2.2 (by omega)⟩) (Nat.le_of_ble_eq_true rfl) (Nat.le_of_ble_eq_true rfl)) (fun v9 w9 hR => ?_)
  obtain ⟨⟨rfl, e9⟩, z0, z9⟩ := hR
  refine x_ew e9 ?_
  simp only [Option.toList_some, Option.toList_none, List.cons_append, List.nil_append]
  refine x_iload_n Z dX2_ask_4 rfl rfl ?_
  refine x_callSx Z okX2_checkQuestion q450 q451 dX2_ask_5 (c_X2_checkQuestion h0 htr (by assumption)) ⟨Nat.le_of_ble_eq_true rfl, Nat.le_of_ble_eq_true rfl, Nat.le_of_ble_eq_true rfl, Nat.le_of_ble_eq_true rfl⟩ rfl rfl (Nat.le_of_ble_eq_true rfl) (fun X w9 hX => x_out Z E (⟨hX.1, hX.2.1, fun h => hX.2.2 (by omega)⟩) (Nat.le_of_ble_eq_true rfl) (Nat.le_of_ble_eq_true rfl)) (fun v9 w9 hR => ?_)
  obtain ⟨⟨rfl, e9⟩, q0, q9⟩ := hR
  refine x_ew e9 ?_
  simp only [Option.toList_some, Option.toList_none, List.cons_append, List.nil_append]
  refine x_iload_n Z dX2_ask_8 rfl rfl ?_
  refine x_iload_n Z dX2_ask_9 rfl rfl ?_
  refine x_callS Z okX0_isSo q508 q135 dX2_ask_10 (c_X0_isSo h0 htr (by omega) (by omega) (by omega) (by omega)) ⟨Nat.le_of_ble_eq_true rfl, Nat.le_of_ble_eq_true rfl, Nat.le_of_ble_eq_true rfl, Nat.le_of_ble_eq_true rfl⟩ rfl rfl (Nat.le_of_ble_eq_true rfl) (fun v9 w9 hR => ?_)
  obtain ⟨rfl, e9⟩ := hR
  refine x_ew e9 ?_
  simp only [Option.toList_some, Option.toList_none, List.cons_append, List.nil_append]
  exact x_zret Z E (⟨⟨rfl, rfl⟩, by omega⟩) dX2_ask_13 (Nat.le_of_ble_eq_true rfl) (Nat.le_of_ble_eq_true rfl)
abbrev rmc_X2_all : Room := { frames := 7, cells := 1, slots := 6, locals := 120 }
set_option maxRecDepth 100000 in
theorem c_X2_all {l : Launch} {s0 : State} {G : gK} {w : wd} (h0 : gS0 s0) (htr : l.stackTraces = false) {K : kA} {M : kM} {s : Int} (hS : kS G w K M) (hs : inr s) : gM l s0 G yX2_all [Cond.code yX2_all cX2_all 4 (some .int)] rmc_X2_all [rv K.1, iv s] w (fun v w' => (v = some (iv (msk (fun q => so s q) 14)) ∧ w' = w) ∧ (0 ≤ s ∧ s < 256)) (fun X w' => X = "java/lang/IllegalArgumentException" ∧ w' = w ∧ ¬ (0 ≤ s ∧ s < 256)) := by
  refine g_of h0 htr (by decide +kernel) (Nat.le_of_ble_eq_true rfl) ?_
  intro b Z0 E
  have Z : gAm b l s0 G cX2_all RX2 4 rmc_X2_all := Z0
  refine x_el (L' := [(0, rv K.1), (1, iv s)]) rfl ?_
  refine x_iload_n Z dX2_all_0 rfl rfl ?_
  refine x_callSx Z okX2_checkSign q332 q333 dX2_all_1 (c_X2_checkSign h0 htr (by assumption)) ⟨Nat.le_of_ble_eq_true rfl, Nat.le_of_ble_eq_true rfl, Nat.le_of_ble_eq_true rfl, Nat.le_of_ble_eq_true rfl⟩ rfl rfl (Nat.le_of_ble_eq_true rfl) (fun X w9 hX => x_out Z E (⟨hX.1, hX.2.1, fun h => hX.2.2 (by omega)⟩) (Nat.le_of_ble_eq_true rfl) (Nat.le_of_ble_eq_true rfl)) (fun v9 w9 hR => ?_)
  obtain ⟨⟨rfl, e9⟩, z0, z9⟩ := hR
  refine x_ew e9 ?_
  simp only [Option.toList_some, Option.toList_none, List.cons_append, List.nil_append]
  refine x_iconst Z dX2_all_4 ?_
  refine x_istore_n (L' := [(2, _), (0, _), (1, _)]) Z dX2_all_5 rfl (Nat.le_of_ble_eq_true rfl) rfl ?_
  refine x_iconst Z dX2_all_6 ?_
  refine x_istore_n (L' := [(3, _), (2, _), (0, _), (1, _)]) Z dX2_all_7 rfl (Nat.le_of_ble_eq_true rfl) rfl ?_
  have loop8 : ∀ (fu : Nat) (i v : Int), 14 - i < (fu : Int) → (0 ≤ i ∧ i ≤ 14 ∧ forI (mstep (fun q => so s q)) i 14 v = msk (fun q => so s q) 14) → gX b s0 G (1) (6) 8 [(3, iv i), (2, iv v), (0, rv K.1), (1, iv s)] [] (w) := by
    intro fu; induction fu with
    | zero => intro i v hm hv; exact absurd hm (by omega)
    | succ fu ih8 =>
      intro i v hm hv
      obtain ⟨hi0, hin, hif⟩ := hv
      refine x_iload_n Z dX2_all_8 rfl rfl ?_
      refine x_bipush Z dX2_all_9 (by decide +kernel) ?_
      refine x_icmp_gt Z 34 dX2_all_11 (by decide) ⟨by omega, by omega⟩ ⟨by omega, by omega⟩ (fun c11 => ?_) (fun c11 => ?_)
      ·
        refine x_iload_n Z dX2_all_34 rfl rfl ?_
        exact x_iret Z E (⟨⟨by rw [← hif, forI_e (by omega)], rfl⟩, by omega⟩) dX2_all_35 (Nat.le_of_ble_eq_true rfl) (Nat.le_of_ble_eq_true rfl)
      ·
        refine x_iload_n Z dX2_all_14 rfl rfl ?_
        refine x_iload_n Z dX2_all_15 rfl rfl ?_
        refine x_callS Z okX0_isSo q508 q135 dX2_all_16 (c_X0_isSo h0 htr (by omega) (by omega) (by omega) (by omega)) ⟨Nat.le_of_ble_eq_true rfl, Nat.le_of_ble_eq_true rfl, Nat.le_of_ble_eq_true rfl, Nat.le_of_ble_eq_true rfl⟩ rfl rfl (Nat.le_of_ble_eq_true rfl) (fun v9 w9 hR => ?_)
        obtain ⟨rfl, e9⟩ := hR
        refine x_ew e9 ?_
        simp only [Option.toList_some, Option.toList_none, List.cons_append, List.nil_append]
        refine x_ifb_eq Z 28 dX2_all_19 (by decide) (fun c19 => ?_) (fun c19 => ?_)
        ·
          refine x_iinc (L' := [(3, _), (2, _), (0, _), (1, _)]) Z dX2_all_28 rfl (Nat.le_of_ble_eq_true rfl) rfl ?_
          refine x_goto Z 8 dX2_all_31 (by decide) ?_
          exact ih8 (i + 1) _ (by omega) ⟨by omega, by omega, by rw [← hif, forI_s (i := i) (by omega)]; first | rw [mstep_t (P := fun q => so s q) c19] | rw [mstep_f (P := fun q => so s q) c19]⟩
        ·
          refine x_iload_n Z dX2_all_22 rfl rfl ?_
          refine x_iconst Z dX2_all_23 ?_
          refine x_iload_n Z dX2_all_24 rfl rfl ?_
          refine x_ishl Z dX2_all_25 ?_
          refine x_ior Z dX2_all_26 ?_
          refine x_istore_n (L' := [(2, _), (3, _), (0, _), (1, _)]) Z dX2_all_27 rfl (Nat.le_of_ble_eq_true rfl) rfl ?_
          refine x_iinc (L' := [(3, _), (2, _), (0, _), (1, _)]) Z dX2_all_28 rfl (Nat.le_of_ble_eq_true rfl) rfl ?_
          refine x_goto Z 8 dX2_all_31 (by decide) ?_
          exact ih8 (i + 1) _ (by omega) ⟨by omega, by omega, by rw [← hif, forI_s (i := i) (by omega)]; first | rw [mstep_t (P := fun q => so s q) c19] | rw [mstep_f (P := fun q => so s q) c19]⟩
  exact loop8 20 0 0 (by omega) ⟨by omega, by omega, rfl⟩
abbrev rmc_X2_nth : Room := { frames := 7, cells := 2, slots := 12, locals := 120 }
set_option maxRecDepth 100000 in
theorem c_X2_nth {l : Launch} {s0 : State} {G : gK} {w : wd} (h0 : gS0 s0) (htr : l.stackTraces = false) {K : kA} {M : kM} {k1 : Int} {m : Int} (hS : kS G w K M) (hk1 : inr k1) (hm : inr m) : gM l s0 G yX2_nth [Cond.code yX2_nth cX2_nth 5 (some .int)] rmc_X2_nth [rv K.1, iv k1, iv m] w (fun v w' => (v = some (iv (nthI k1 0 m)) ∧ w' = w) ∧ (((0 ≤ k1 ∧ k1 < 31)) ∧ 0 ≤ m ∧ m ≤ 255)) (fun X w' => X = "java/lang/IllegalArgumentException" ∧ w' = w ∧ ¬ (((0 ≤ k1 ∧ k1 < 31)) ∧ 0 ≤ m ∧ m ≤ 255)) := by
  refine g_of h0 htr (by decide +kernel) (Nat.le_of_ble_eq_true rfl) ?_
  intro b Z0 E
  have Z : gAm b l s0 G cX2_nth RX2 5 rmc_X2_nth := Z0
  refine x_el (L' := [(0, rv K.1), (1, iv k1), (2, iv m)]) rfl ?_
  refine x_iload_n Z dX2_nth_0 rfl rfl ?_
  refine x_callSx Z okX2_checkKind q464 q465 dX2_nth_1 (c_X2_checkKind h0 htr (by assumption)) ⟨Nat.le_of_ble_eq_true rfl, Nat.le_of_ble_eq_true rfl, Nat.le_of_ble_eq_true rfl, Nat.le_of_ble_eq_true rfl⟩ rfl rfl (Nat.le_of_ble_eq_true rfl) (fun X w9 hX => x_out Z E (⟨hX.1, hX.2.1, fun h => hX.2.2 (by omega)⟩) (Nat.le_of_ble_eq_true rfl) (Nat.le_of_ble_eq_true rfl)) (fun v9 w9 hR => ?_)
  obtain ⟨⟨rfl, e9⟩, k0, k9⟩ := hR
  refine x_ew e9 ?_
  simp only [Option.toList_some, Option.toList_none, List.cons_append, List.nil_append]
  refine x_iload_n Z dX2_nth_4 rfl rfl ?_
  refine x_if_lt Z 15 dX2_nth_5 (by decide) ⟨by omega, by omega⟩ (fun c5 => ?_) (fun c5 => ?_)
  ·
    exact x_thr Z E (cls := "java/lang/IllegalArgumentException") (ik := 71) (ic := 73) (by decide +kernel) wsIA dX2_nth_15 dX2_nth_18 dX2_nth_19 dX2_nth_22 (Nat.le_of_ble_eq_true rfl) (Nat.le_of_ble_eq_true rfl) (Nat.le_of_ble_eq_true rfl) (Nat.le_of_ble_eq_true rfl) ⟨rfl, rfl, by omega⟩
  ·
    refine x_iload_n Z dX2_nth_8 rfl rfl ?_
    refine x_sipush Z dX2_nth_9 (by decide +kernel) ?_
    refine x_icmp_le Z 23 dX2_nth_12 (by decide) ⟨by omega, by omega⟩ ⟨by omega, by omega⟩ (fun c12 => ?_) (fun c12 => ?_)
    ·
      refine x_iconst Z dX2_nth_23 ?_
      refine x_istore_n (L' := [(3, _), (0, _), (1, _), (2, _)]) Z dX2_nth_24 rfl (Nat.le_of_ble_eq_true rfl) rfl ?_
      refine x_iconst Z dX2_nth_25 ?_
      refine x_istore (L' := [(4, _), (3, _), (0, _), (1, _), (2, _)]) Z dX2_nth_26 (Nat.le_of_ble_eq_true rfl) rfl ?_
      have loop28 : ∀ (fu : Nat) (i h : Int), 256 - i < (fu : Int) → (0 ≤ i ∧ i ≤ 256 ∧ 0 ≤ h ∧ h ≤ i ∧ h ≤ m ∧ nthI k1 i (m - h) = nthI k1 0 m) → gX b s0 G (1) (6) 28 [(4, iv i), (3, iv h), (0, rv K.1), (1, iv k1), (2, iv m)] [] (w) := by
        intro fu; induction fu with
        | zero => intro i h hm hv; exact absurd hm (by omega)
        | succ fu ih28 =>
          intro i h hm hv
          obtain ⟨hi0, hin, hh0, hhi, hhm, hif⟩ := hv
          have hki := kin_in i
          refine x_iload Z dX2_nth_28 rfl ?_
          refine x_sipush Z dX2_nth_30 (by decide +kernel) ?_
          refine x_icmp_gt Z 62 dX2_nth_33 (by decide) ⟨by omega, by omega⟩ ⟨by omega, by omega⟩ (fun c33 => ?_) (fun c33 => ?_)
          ·
            refine x_iconst Z dX2_nth_62 ?_
            exact x_iret Z E (⟨⟨by rw [← hif, nthI_e (by omega)], rfl⟩, by omega⟩) dX2_nth_63 (Nat.le_of_ble_eq_true rfl) (Nat.le_of_ble_eq_true rfl)
          ·
            refine x_iload Z dX2_nth_36 rfl ?_
            refine x_callS Z okX0_kindNumber q108 q109 dX2_nth_38 (c_X0_kindNumber h0 htr (by omega) (by omega)) ⟨Nat.le_of_ble_eq_true rfl, Nat.le_of_ble_eq_true rfl, Nat.le_of_ble_eq_true rfl, Nat.le_of_ble_eq_true rfl⟩ rfl rfl (Nat.le_of_ble_eq_true rfl) (fun v9 w9 hR => ?_)
            obtain ⟨rfl, e9⟩ := hR
            refine x_ew e9 ?_
            simp only [Option.toList_some, Option.toList_none, List.cons_append, List.nil_append]
            refine x_iload_n Z dX2_nth_41 rfl rfl ?_
            refine x_icmp_ne Z 56 dX2_nth_42 (by decide) ⟨by omega, by omega⟩ ⟨by omega, by omega⟩ (fun c42 => ?_) (fun c42 => ?_)
            ·
              refine x_iinc (L' := [(4, _), (3, _), (0, _), (1, _), (2, _)]) Z dX2_nth_56 rfl (Nat.le_of_ble_eq_true rfl) rfl ?_
              refine x_goto Z 28 dX2_nth_59 (by decide) ?_
              first | exact ih28 (i + 1) (h + 1) (by omega) ⟨by omega, by omega, by omega, by omega, by omega, by rw [← hif, nthI_h (by omega) c42 (by omega)]; congr 1; omega⟩ | exact ih28 (i + 1) h (by omega) ⟨by omega, by omega, by omega, by omega, by omega, by rw [← hif, nthI_n (by omega) c42]⟩
            ·
              refine x_iload_n Z dX2_nth_45 rfl rfl ?_
              refine x_iload_n Z dX2_nth_46 rfl rfl ?_
              refine x_icmp_ne Z 53 dX2_nth_47 (by decide) ⟨by omega, by omega⟩ ⟨by omega, by omega⟩ (fun c47 => ?_) (fun c47 => ?_)
              ·
                refine x_iinc (L' := [(3, _), (4, _), (0, _), (1, _), (2, _)]) Z dX2_nth_53 rfl (Nat.le_of_ble_eq_true rfl) rfl ?_
                refine x_iinc (L' := [(4, _), (3, _), (0, _), (1, _), (2, _)]) Z dX2_nth_56 rfl (Nat.le_of_ble_eq_true rfl) rfl ?_
                refine x_goto Z 28 dX2_nth_59 (by decide) ?_
                first | exact ih28 (i + 1) (h + 1) (by omega) ⟨by omega, by omega, by omega, by omega, by omega, by rw [← hif, nthI_h (by omega) c42 (by omega)]; congr 1; omega⟩ | exact ih28 (i + 1) h (by omega) ⟨by omega, by omega, by omega, by omega, by omega, by rw [← hif, nthI_n (by omega) c42]⟩
              ·
                refine x_iload Z dX2_nth_50 rfl ?_
                exact x_iret Z E (⟨⟨by rw [← hif, nthI_0 (by omega) c42 (by omega)], rfl⟩, by omega⟩) dX2_nth_52 (Nat.le_of_ble_eq_true rfl) (Nat.le_of_ble_eq_true rfl)
      exact loop28 300 0 0 (by omega) ⟨by omega, by omega, by omega, by omega, by omega, by congr 1; omega⟩
    ·
      exact x_thr Z E (cls := "java/lang/IllegalArgumentException") (ik := 71) (ic := 73) (by decide +kernel) wsIA dX2_nth_15 dX2_nth_18 dX2_nth_19 dX2_nth_22 (Nat.le_of_ble_eq_true rfl) (Nat.le_of_ble_eq_true rfl) (Nat.le_of_ble_eq_true rfl) (Nat.le_of_ble_eq_true rfl) ⟨rfl, rfl, by omega⟩
abbrev rmc_X2_next : Room := { frames := 7, cells := 2, slots := 12, locals := 120 }
set_option maxRecDepth 100000 in
theorem c_X2_next {l : Launch} {s0 : State} {G : gK} {w : wd} (h0 : gS0 s0) (htr : l.stackTraces = false) {K : kA} {M : kM} {q : Int} {f : Int} {o : Bool} (hS : kS G w K M) (hq : inr q) (hf : inr f) : gM l s0 G yX2_next [Cond.code yX2_next cX2_next 5 (some .int)] rmc_X2_next [rv K.1, iv q, iv f, iv (b2 o)] w (fun v w' => (v = some (iv ((if findI (fun c => so c q == o) f 256 < 256 then findI (fun c => so c q == o) f 256 else -1))) ∧ w' = w) ∧ (((0 ≤ q ∧ q < 14)) ∧ 0 ≤ f ∧ f < 256)) (fun X w' => X = "java/lang/IllegalArgumentException" ∧ w' = w ∧ ¬ (((0 ≤ q ∧ q < 14)) ∧ 0 ≤ f ∧ f < 256)) := by
  refine g_of h0 htr (by decide +kernel) (Nat.le_of_ble_eq_true rfl) ?_
  intro b Z0 E
  have Z : gAm b l s0 G cX2_next RX2 5 rmc_X2_next := Z0
  refine x_el (L' := [(0, rv K.1), (1, iv q), (2, iv f), (3, iv (b2 o))]) rfl ?_
  refine x_iload_n Z dX2_next_0 rfl rfl ?_
  refine x_callSx Z okX2_checkQuestion q450 q451 dX2_next_1 (c_X2_checkQuestion h0 htr (by assumption)) ⟨Nat.le_of_ble_eq_true rfl, Nat.le_of_ble_eq_true rfl, Nat.le_of_ble_eq_true rfl, Nat.le_of_ble_eq_true rfl⟩ rfl rfl (Nat.le_of_ble_eq_true rfl) (fun X w9 hX => x_out Z E (⟨hX.1, hX.2.1, fun h => hX.2.2 (by omega)⟩) (Nat.le_of_ble_eq_true rfl) (Nat.le_of_ble_eq_true rfl)) (fun v9 w9 hR => ?_)
  obtain ⟨⟨rfl, e9⟩, q0, q9⟩ := hR
  refine x_ew e9 ?_
  simp only [Option.toList_some, Option.toList_none, List.cons_append, List.nil_append]
  refine x_iload_n Z dX2_next_4 rfl rfl ?_
  refine x_callSx Z okX2_checkSign q332 q333 dX2_next_5 (c_X2_checkSign h0 htr (by assumption)) ⟨Nat.le_of_ble_eq_true rfl, Nat.le_of_ble_eq_true rfl, Nat.le_of_ble_eq_true rfl, Nat.le_of_ble_eq_true rfl⟩ rfl rfl (Nat.le_of_ble_eq_true rfl) (fun X w9 hX => x_out Z E (⟨hX.1, hX.2.1, fun h => hX.2.2 (by omega)⟩) (Nat.le_of_ble_eq_true rfl) (Nat.le_of_ble_eq_true rfl)) (fun v9 w9 hR => ?_)
  obtain ⟨⟨rfl, e9⟩, f0, f9⟩ := hR
  refine x_ew e9 ?_
  simp only [Option.toList_some, Option.toList_none, List.cons_append, List.nil_append]
  refine x_iload_n Z dX2_next_8 rfl rfl ?_
  refine x_istore (L' := [(4, _), (0, _), (1, _), (2, _), (3, _)]) Z dX2_next_9 (Nat.le_of_ble_eq_true rfl) rfl ?_
  have loop11 : ∀ (fu : Nat) (i : Int), 256 - i < (fu : Int) → (f ≤ i ∧ i ≤ 256 ∧ findI (fun c => so c q == o) i 256 = findI (fun c => so c q == o) f 256) → gX b s0 G (2) (12) 11 [(4, iv i), (0, rv K.1), (1, iv q), (2, iv f), (3, iv (b2 o))] [] (w) := by
    intro fu; induction fu with
    | zero => intro i hm hv; exact absurd hm (by omega)
    | succ fu ih11 =>
      intro i hm hv
      obtain ⟨hi0, hin, hif⟩ := hv
      refine x_iload Z dX2_next_11 rfl ?_
      refine x_sipush Z dX2_next_13 (by decide +kernel) ?_
      refine x_icmp_gt Z 38 dX2_next_16 (by decide) ⟨by omega, by omega⟩ ⟨by omega, by omega⟩ (fun c16 => ?_) (fun c16 => ?_)
      ·
        refine x_iconst Z dX2_next_38 ?_
        exact x_iret Z E (⟨⟨by rw [← hif, findI_e (by omega), if_neg (by omega)], rfl⟩, by omega⟩) dX2_next_39 (Nat.le_of_ble_eq_true rfl) (Nat.le_of_ble_eq_true rfl)
      ·
        refine x_iload Z dX2_next_19 rfl ?_
        refine x_iload_n Z dX2_next_21 rfl rfl ?_
        refine x_callS Z okX0_isSo q508 q135 dX2_next_22 (c_X0_isSo h0 htr (by omega) (by omega) (by omega) (by omega)) ⟨Nat.le_of_ble_eq_true rfl, Nat.le_of_ble_eq_true rfl, Nat.le_of_ble_eq_true rfl, Nat.le_of_ble_eq_true rfl⟩ rfl rfl (Nat.le_of_ble_eq_true rfl) (fun v9 w9 hR => ?_)
        obtain ⟨rfl, e9⟩ := hR
        refine x_ew e9 ?_
        simp only [Option.toList_some, Option.toList_none, List.cons_append, List.nil_append]
        refine x_iload_n Z dX2_next_25 rfl rfl ?_
        refine x_icmpb_ne Z 32 dX2_next_26 (by decide) (fun c26 => ?_) (fun c26 => ?_)
        ·
          refine x_iinc (L' := [(4, _), (0, _), (1, _), (2, _), (3, _)]) Z dX2_next_32 rfl (Nat.le_of_ble_eq_true rfl) rfl ?_
          refine x_goto Z 11 dX2_next_35 (by decide) ?_
          exact ih11 (i + 1) (by omega) ⟨by omega, by omega, by rw [← hif]; exact (findI_m (by omega) (by simpa using c26)).symm⟩
        ·
          refine x_iload Z dX2_next_29 rfl ?_
          exact x_iret Z E (⟨⟨by rw [← hif, findI_h (by simpa using c26), if_pos (by omega)], rfl⟩, by omega⟩) dX2_next_31 (Nat.le_of_ble_eq_true rfl) (Nat.le_of_ble_eq_true rfl)
  exact loop11 300 f (by omega) ⟨by omega, by omega, rfl⟩
abbrev rmc_X2_run : Room := { frames := 7, cells := 2, slots := 12, locals := 120 }
set_option maxRecDepth 100000 in
theorem c_X2_run {l : Launch} {s0 : State} {G : gK} {w : wd} (h0 : gS0 s0) (htr : l.stackTraces = false) {K : kA} {M : kM} {q : Int} {f : Int} (hS : kS G w K M) (hq : inr q) (hf : inr f) : gM l s0 G yX2_run [Cond.code yX2_run cX2_run 5 (some .int)] rmc_X2_run [rv K.1, iv q, iv f] w (fun v w' => (v = some (iv (findI (fun c => so c q != so f q) f 256 - f)) ∧ w' = w) ∧ (((0 ≤ q ∧ q < 14)) ∧ 0 ≤ f ∧ f < 256)) (fun X w' => X = "java/lang/IllegalArgumentException" ∧ w' = w ∧ ¬ (((0 ≤ q ∧ q < 14)) ∧ 0 ≤ f ∧ f < 256)) := by
  refine g_of h0 htr (by decide +kernel) (Nat.le_of_ble_eq_true rfl) ?_
  intro b Z0 E
  have Z : gAm b l s0 G cX2_run RX2 5 rmc_X2_run := Z0
  refine x_el (L' := [(0, rv K.1), (1, iv q), (2, iv f)]) rfl ?_
  refine x_iload_n Z dX2_run_0 rfl rfl ?_
  refine x_callSx Z okX2_checkQuestion q450 q451 dX2_run_1 (c_X2_checkQuestion h0 htr (by assumption)) ⟨Nat.le_of_ble_eq_true rfl, Nat.le_of_ble_eq_true rfl, Nat.le_of_ble_eq_true rfl, Nat.le_of_ble_eq_true rfl⟩ rfl rfl (Nat.le_of_ble_eq_true rfl) (fun X w9 hX => x_out Z E (⟨hX.1, hX.2.1, fun h => hX.2.2 (by omega)⟩) (Nat.le_of_ble_eq_true rfl) (Nat.le_of_ble_eq_true rfl)) (fun v9 w9 hR => ?_)
  obtain ⟨⟨rfl, e9⟩, q0, q9⟩ := hR
  refine x_ew e9 ?_
  simp only [Option.toList_some, Option.toList_none, List.cons_append, List.nil_append]
  refine x_iload_n Z dX2_run_4 rfl rfl ?_
  refine x_callSx Z okX2_checkSign q332 q333 dX2_run_5 (c_X2_checkSign h0 htr (by assumption)) ⟨Nat.le_of_ble_eq_true rfl, Nat.le_of_ble_eq_true rfl, Nat.le_of_ble_eq_true rfl, Nat.le_of_ble_eq_true rfl⟩ rfl rfl (Nat.le_of_ble_eq_true rfl) (fun X w9 hX => x_out Z E (⟨hX.1, hX.2.1, fun h => hX.2.2 (by omega)⟩) (Nat.le_of_ble_eq_true rfl) (Nat.le_of_ble_eq_true rfl)) (fun v9 w9 hR => ?_)
  obtain ⟨⟨rfl, e9⟩, f0, f9⟩ := hR
  refine x_ew e9 ?_
  simp only [Option.toList_some, Option.toList_none, List.cons_append, List.nil_append]
  refine x_iload_n Z dX2_run_8 rfl rfl ?_
  refine x_iload_n Z dX2_run_9 rfl rfl ?_
  refine x_callS Z okX0_isSo q508 q135 dX2_run_10 (c_X0_isSo h0 htr (by omega) (by omega) (by omega) (by omega)) ⟨Nat.le_of_ble_eq_true rfl, Nat.le_of_ble_eq_true rfl, Nat.le_of_ble_eq_true rfl, Nat.le_of_ble_eq_true rfl⟩ rfl rfl (Nat.le_of_ble_eq_true rfl) (fun v9 w9 hR => ?_)
  obtain ⟨rfl, e9⟩ := hR
  refine x_ew e9 ?_
  simp only [Option.toList_some, Option.toList_none, List.cons_append, List.nil_append]
  refine x_istore_n (L' := [(3, _), (0, _), (1, _), (2, _)]) Z dX2_run_13 rfl (Nat.le_of_ble_eq_true rfl) rfl ?_
  refine x_iload_n Z dX2_run_14 rfl rfl ?_
  refine x_iconst Z dX2_run_15 ?_
  refine x_iadd Z dX2_run_16 ?_
  refine x_istore (L' := [(4, _), (3, _), (0, _), (1, _), (2, _)]) Z dX2_run_17 (Nat.le_of_ble_eq_true rfl) rfl ?_
  have loop19 : ∀ (fu : Nat) (i : Int), 256 - i < (fu : Int) → ((f + 1) ≤ i ∧ i ≤ 256 ∧ findI (fun c => so c q != so f q) i 256 = findI (fun c => so c q != so f q) (f + 1) 256) → gX b s0 G (2) (12) 19 [(4, iv i), (3, iv (b2 (so f q))), (0, rv K.1), (1, iv q), (2, iv f)] [] (w) := by
    intro fu; induction fu with
    | zero => intro i hm hv; exact absurd hm (by omega)
    | succ fu ih19 =>
      intro i hm hv
      obtain ⟨hi0, hin, hif⟩ := hv
      refine x_iload Z dX2_run_19 rfl ?_
      refine x_sipush Z dX2_run_21 (by decide +kernel) ?_
      refine x_icmp_gt Z 43 dX2_run_24 (by decide) ⟨by omega, by omega⟩ ⟨by omega, by omega⟩ (fun c24 => ?_) (fun c24 => ?_)
      ·
        refine x_iload Z dX2_run_43 rfl ?_
        refine x_iload_n Z dX2_run_45 rfl rfl ?_
        refine x_isub Z dX2_run_46 ?_
        exact x_iret Z E (⟨⟨by rw [findI_m (P := fun c => so c q != so f q) (i := f) (n := 256) (by omega) (by simp), ← hif]; first | rw [findI_e (by omega)] | rw [findI_h (by simpa using c34)], rfl⟩, by omega⟩) dX2_run_47 (Nat.le_of_ble_eq_true rfl) (Nat.le_of_ble_eq_true rfl)
      ·
        refine x_iload Z dX2_run_27 rfl ?_
        refine x_iload_n Z dX2_run_29 rfl rfl ?_
        refine x_callS Z okX0_isSo q508 q135 dX2_run_30 (c_X0_isSo h0 htr (by omega) (by omega) (by omega) (by omega)) ⟨Nat.le_of_ble_eq_true rfl, Nat.le_of_ble_eq_true rfl, Nat.le_of_ble_eq_true rfl, Nat.le_of_ble_eq_true rfl⟩ rfl rfl (Nat.le_of_ble_eq_true rfl) (fun v9 w9 hR => ?_)
        obtain ⟨rfl, e9⟩ := hR
        refine x_ew e9 ?_
        simp only [Option.toList_some, Option.toList_none, List.cons_append, List.nil_append]
        refine x_iload_n Z dX2_run_33 rfl rfl ?_
        refine x_icmpb_ne Z 43 dX2_run_34 (by decide) (fun c34 => ?_) (fun c34 => ?_)
        ·
          refine x_iload Z dX2_run_43 rfl ?_
          refine x_iload_n Z dX2_run_45 rfl rfl ?_
          refine x_isub Z dX2_run_46 ?_
          exact x_iret Z E (⟨⟨by rw [findI_m (P := fun c => so c q != so f q) (i := f) (n := 256) (by omega) (by simp), ← hif]; first | rw [findI_e (by omega)] | rw [findI_h (by simpa using c34)], rfl⟩, by omega⟩) dX2_run_47 (Nat.le_of_ble_eq_true rfl) (Nat.le_of_ble_eq_true rfl)
        ·
          refine x_iinc (L' := [(4, _), (3, _), (0, _), (1, _), (2, _)]) Z dX2_run_37 rfl (Nat.le_of_ble_eq_true rfl) rfl ?_
          refine x_goto Z 19 dX2_run_40 (by decide) ?_
          exact ih19 (i + 1) (by omega) ⟨by omega, by omega, by rw [← hif]; exact (findI_m (by omega) (by simpa using c34)).symm⟩
  exact loop19 300 (f + 1) (by omega) ⟨by omega, by omega, rfl⟩
abbrev rmc_X2_ofKind : Room := { frames := 8, cells := 4, slots := 24, locals := 141 }
set_option maxRecDepth 100000 in
theorem c_X2_ofKind {l : Launch} {s0 : State} {G : gK} {w : wd} (h0 : gS0 s0) (htr : l.stackTraces = false) {K : kA} {M : kM} {k1 : Int} {f : Int} {t : Int} (hS : kS G w K M) (hk1 : inr k1) (hf : inr f) (ht : inr t) : gM l s0 G yX2_ofKind [Cond.code yX2_ofKind cX2_ofKind 6 (some .int)] rmc_X2_ofKind [rv K.1, iv k1, iv f, iv t] w (fun v w' => (v = some (iv (forI (cst (fun c => decide (kin c = k1))) f (t + 1) 0)) ∧ w' = w) ∧ (((0 ≤ k1 ∧ k1 < 31)) ∧ 0 ≤ f ∧ f < 256 ∧ 0 ≤ t ∧ t < 256 ∧ f ≤ t)) (fun X w' => X = "java/lang/IllegalArgumentException" ∧ w' = w ∧ ¬ (((0 ≤ k1 ∧ k1 < 31)) ∧ 0 ≤ f ∧ f < 256 ∧ 0 ≤ t ∧ t < 256 ∧ f ≤ t)) := by
  refine g_of h0 htr (by decide +kernel) (Nat.le_of_ble_eq_true rfl) ?_
  intro b Z0 E
  have Z : gAm b l s0 G cX2_ofKind RX2 6 rmc_X2_ofKind := Z0
  refine x_el (L' := [(0, rv K.1), (1, iv k1), (2, iv f), (3, iv t)]) rfl ?_
  refine x_iload_n Z dX2_ofKind_0 rfl rfl ?_
  refine x_callSx Z okX2_checkKind q464 q465 dX2_ofKind_1 (c_X2_checkKind h0 htr (by assumption)) ⟨Nat.le_of_ble_eq_true rfl, Nat.le_of_ble_eq_true rfl, Nat.le_of_ble_eq_true rfl, Nat.le_of_ble_eq_true rfl⟩ rfl rfl (Nat.le_of_ble_eq_true rfl) (fun X w9 hX => x_out Z E (⟨hX.1, hX.2.1, fun h => hX.2.2 (by omega)⟩) (Nat.le_of_ble_eq_true rfl) (Nat.le_of_ble_eq_true rfl)) (fun v9 w9 hR => ?_)
  obtain ⟨⟨rfl, e9⟩, k0, k9⟩ := hR
  refine x_ew e9 ?_
  simp only [Option.toList_some, Option.toList_none, List.cons_append, List.nil_append]
  refine x_iload_n Z dX2_ofKind_4 rfl rfl ?_
  refine x_iload_n Z dX2_ofKind_5 rfl rfl ?_
  refine x_callSx Z okX2_checkSpan q544 q545 dX2_ofKind_6 (c_X2_checkSpan h0 htr (by assumption) (by assumption)) ⟨Nat.le_of_ble_eq_true rfl, Nat.le_of_ble_eq_true rfl, Nat.le_of_ble_eq_true rfl, Nat.le_of_ble_eq_true rfl⟩ rfl rfl (Nat.le_of_ble_eq_true rfl) (fun X w9 hX => x_out Z E (⟨hX.1, hX.2.1, fun h => hX.2.2 (by omega)⟩) (Nat.le_of_ble_eq_true rfl) (Nat.le_of_ble_eq_true rfl)) (fun v9 w9 hR => ?_)
  obtain ⟨⟨rfl, e9⟩, hf0, hft, ht9⟩ := hR
  refine x_ew e9 ?_
  simp only [Option.toList_some, Option.toList_none, List.cons_append, List.nil_append]
  refine x_iconst Z dX2_ofKind_9 ?_
  refine x_istore (L' := [(4, _), (0, _), (1, _), (2, _), (3, _)]) Z dX2_ofKind_10 (Nat.le_of_ble_eq_true rfl) rfl ?_
  refine x_iload_n Z dX2_ofKind_12 rfl rfl ?_
  refine x_istore (L' := [(5, _), (4, _), (0, _), (1, _), (2, _), (3, _)]) Z dX2_ofKind_13 (Nat.le_of_ble_eq_true rfl) rfl ?_
  have loop15 : ∀ (fu : Nat) (i v : Int), (t + 1) - i < (fu : Int) → (f ≤ i ∧ i ≤ (t + 1) ∧ forI (cst (fun c => decide (kin c = k1))) i ((t + 1)) v = forI (cst (fun c => decide (kin c = k1))) f ((t + 1)) 0) → gX b s0 G (4) (24) 15 [(5, iv i), (4, iv v), (0, rv K.1), (1, iv k1), (2, iv f), (3, iv t)] [] (w) := by
    intro fu; induction fu with
    | zero => intro i v hm hv; exact absurd hm (by omega)
    | succ fu ih15 =>
      intro i v hm hv
      obtain ⟨hi0, hin, hif⟩ := hv
      have hki := kin_in i
      refine x_iload Z dX2_ofKind_15 rfl ?_
      refine x_iload_n Z dX2_ofKind_17 rfl rfl ?_
      refine x_icmp_gt Z 39 dX2_ofKind_18 (by decide) ⟨by omega, by omega⟩ ⟨by omega, by omega⟩ (fun c18 => ?_) (fun c18 => ?_)
      ·
        refine x_iload Z dX2_ofKind_39 rfl ?_
        exact x_iret Z E (⟨⟨by rw [← hif, forI_e (by omega)], rfl⟩, by omega⟩) dX2_ofKind_41 (Nat.le_of_ble_eq_true rfl) (Nat.le_of_ble_eq_true rfl)
      ·
        refine x_iload Z dX2_ofKind_21 rfl ?_
        refine x_callS Z okX0_kindNumber q108 q109 dX2_ofKind_23 (c_X0_kindNumber h0 htr (by omega) (by omega)) ⟨Nat.le_of_ble_eq_true rfl, Nat.le_of_ble_eq_true rfl, Nat.le_of_ble_eq_true rfl, Nat.le_of_ble_eq_true rfl⟩ rfl rfl (Nat.le_of_ble_eq_true rfl) (fun v9 w9 hR => ?_)
        obtain ⟨rfl, e9⟩ := hR
        refine x_ew e9 ?_
        simp only [Option.toList_some, Option.toList_none, List.cons_append, List.nil_append]
        refine x_iload_n Z dX2_ofKind_26 rfl rfl ?_
        refine x_icmp_ne Z 33 dX2_ofKind_27 (by decide) ⟨by omega, by omega⟩ ⟨by omega, by omega⟩ (fun c27 => ?_) (fun c27 => ?_)
        ·
          refine x_iinc (L' := [(5, _), (4, _), (0, _), (1, _), (2, _), (3, _)]) Z dX2_ofKind_33 rfl (Nat.le_of_ble_eq_true rfl) rfl ?_
          refine x_goto Z 15 dX2_ofKind_36 (by decide) ?_
          first | exact ih15 (i + 1) (v + 1) (by omega) ⟨by omega, by omega, by rw [← hif, forI_s (i := i) (by omega), cst_t (P := fun c => decide (kin c = k1)) (by first | exact decide_eq_true c27 | exact decide_eq_false c27)]⟩ | exact ih15 (i + 1) v (by omega) ⟨by omega, by omega, by rw [← hif, forI_s (i := i) (by omega), cst_f (P := fun c => decide (kin c = k1)) (by first | exact decide_eq_true c27 | exact decide_eq_false c27)]⟩
        ·
          refine x_iinc (L' := [(4, _), (5, _), (0, _), (1, _), (2, _), (3, _)]) Z dX2_ofKind_30 rfl (Nat.le_of_ble_eq_true rfl) rfl ?_
          refine x_iinc (L' := [(5, _), (4, _), (0, _), (1, _), (2, _), (3, _)]) Z dX2_ofKind_33 rfl (Nat.le_of_ble_eq_true rfl) rfl ?_
          refine x_goto Z 15 dX2_ofKind_36 (by decide) ?_
          first | exact ih15 (i + 1) (v + 1) (by omega) ⟨by omega, by omega, by rw [← hif, forI_s (i := i) (by omega), cst_t (P := fun c => decide (kin c = k1)) (by first | exact decide_eq_true c27 | exact decide_eq_false c27)]⟩ | exact ih15 (i + 1) v (by omega) ⟨by omega, by omega, by rw [← hif, forI_s (i := i) (by omega), cst_f (P := fun c => decide (kin c = k1)) (by first | exact decide_eq_true c27 | exact decide_eq_false c27)]⟩
  exact loop15 300 f 0 (by omega) ⟨by omega, by omega, rfl⟩
abbrev rmc_X2_ofQuestion : Room := { frames := 8, cells := 4, slots := 24, locals := 141 }
set_option maxRecDepth 100000 in
theorem c_X2_ofQuestion {l : Launch} {s0 : State} {G : gK} {w : wd} (h0 : gS0 s0) (htr : l.stackTraces = false) {K : kA} {M : kM} {q : Int} {f : Int} {t : Int} (hS : kS G w K M) (hq : inr q) (hf : inr f) (ht : inr t) : gM l s0 G yX2_ofQuestion [Cond.code yX2_ofQuestion cX2_ofQuestion 6 (some .int)] rmc_X2_ofQuestion [rv K.1, iv q, iv f, iv t] w (fun v w' => (v = some (iv (forI (cst (fun c => so c q)) f (t + 1) 0)) ∧ w' = w) ∧ (((0 ≤ q ∧ q < 14)) ∧ 0 ≤ f ∧ f < 256 ∧ 0 ≤ t ∧ t < 256 ∧ f ≤ t)) (fun X w' => X = "java/lang/IllegalArgumentException" ∧ w' = w ∧ ¬ (((0 ≤ q ∧ q < 14)) ∧ 0 ≤ f ∧ f < 256 ∧ 0 ≤ t ∧ t < 256 ∧ f ≤ t)) := by
  refine g_of h0 htr (by decide +kernel) (Nat.le_of_ble_eq_true rfl) ?_
  intro b Z0 E
  have Z : gAm b l s0 G cX2_ofQuestion RX2 6 rmc_X2_ofQuestion := Z0
  refine x_el (L' := [(0, rv K.1), (1, iv q), (2, iv f), (3, iv t)]) rfl ?_
  refine x_iload_n Z dX2_ofQuestion_0 rfl rfl ?_
  refine x_callSx Z okX2_checkQuestion q450 q451 dX2_ofQuestion_1 (c_X2_checkQuestion h0 htr (by assumption)) ⟨Nat.le_of_ble_eq_true rfl, Nat.le_of_ble_eq_true rfl, Nat.le_of_ble_eq_true rfl, Nat.le_of_ble_eq_true rfl⟩ rfl rfl (Nat.le_of_ble_eq_true rfl) (fun X w9 hX => x_out Z E (⟨hX.1, hX.2.1, fun h => hX.2.2 (by omega)⟩) (Nat.le_of_ble_eq_true rfl) (Nat.le_of_ble_eq_true rfl)) (fun v9 w9 hR => ?_)
  obtain ⟨⟨rfl, e9⟩, q0, q9⟩ := hR
  refine x_ew e9 ?_
  simp only [Option.toList_some, Option.toList_none, List.cons_append, List.nil_append]
  refine x_iload_n Z dX2_ofQuestion_4 rfl rfl ?_
  refine x_iload_n Z dX2_ofQuestion_5 rfl rfl ?_
  refine x_callSx Z okX2_checkSpan q544 q545 dX2_ofQuestion_6 (c_X2_checkSpan h0 htr (by assumption) (by assumption)) ⟨Nat.le_of_ble_eq_true rfl, Nat.le_of_ble_eq_true rfl, Nat.le_of_ble_eq_true rfl, Nat.le_of_ble_eq_true rfl⟩ rfl rfl (Nat.le_of_ble_eq_true rfl) (fun X w9 hX => x_out Z E (⟨hX.1, hX.2.1, fun h => hX.2.2 (by omega)⟩) (Nat.le_of_ble_eq_true rfl) (Nat.le_of_ble_eq_true rfl)) (fun v9 w9 hR => ?_)
  obtain ⟨⟨rfl, e9⟩, hf0, hft, ht9⟩ := hR
  refine x_ew e9 ?_
  simp only [Option.toList_some, Option.toList_none, List.cons_append, List.nil_append]
  refine x_iconst Z dX2_ofQuestion_9 ?_
  refine x_istore (L' := [(4, _), (0, _), (1, _), (2, _), (3, _)]) Z dX2_ofQuestion_10 (Nat.le_of_ble_eq_true rfl) rfl ?_
  refine x_iload_n Z dX2_ofQuestion_12 rfl rfl ?_
  refine x_istore (L' := [(5, _), (4, _), (0, _), (1, _), (2, _), (3, _)]) Z dX2_ofQuestion_13 (Nat.le_of_ble_eq_true rfl) rfl ?_
  have loop15 : ∀ (fu : Nat) (i v : Int), (t + 1) - i < (fu : Int) → (f ≤ i ∧ i ≤ (t + 1) ∧ forI (cst (fun c => so c q)) i ((t + 1)) v = forI (cst (fun c => so c q)) f ((t + 1)) 0) → gX b s0 G (4) (24) 15 [(5, iv i), (4, iv v), (0, rv K.1), (1, iv q), (2, iv f), (3, iv t)] [] (w) := by
    intro fu; induction fu with
    | zero => intro i v hm hv; exact absurd hm (by omega)
    | succ fu ih15 =>
      intro i v hm hv
      obtain ⟨hi0, hin, hif⟩ := hv
      have hki := kin_in i
      refine x_iload Z dX2_ofQuestion_15 rfl ?_
      refine x_iload_n Z dX2_ofQuestion_17 rfl rfl ?_
      refine x_icmp_gt Z 39 dX2_ofQuestion_18 (by decide) ⟨by omega, by omega⟩ ⟨by omega, by omega⟩ (fun c18 => ?_) (fun c18 => ?_)
      ·
        refine x_iload Z dX2_ofQuestion_39 rfl ?_
        exact x_iret Z E (⟨⟨by rw [← hif, forI_e (by omega)], rfl⟩, by omega⟩) dX2_ofQuestion_41 (Nat.le_of_ble_eq_true rfl) (Nat.le_of_ble_eq_true rfl)
      ·
        refine x_iload Z dX2_ofQuestion_21 rfl ?_
        refine x_iload_n Z dX2_ofQuestion_23 rfl rfl ?_
        refine x_callS Z okX0_isSo q508 q135 dX2_ofQuestion_24 (c_X0_isSo h0 htr (by omega) (by omega) (by omega) (by omega)) ⟨Nat.le_of_ble_eq_true rfl, Nat.le_of_ble_eq_true rfl, Nat.le_of_ble_eq_true rfl, Nat.le_of_ble_eq_true rfl⟩ rfl rfl (Nat.le_of_ble_eq_true rfl) (fun v9 w9 hR => ?_)
        obtain ⟨rfl, e9⟩ := hR
        refine x_ew e9 ?_
        simp only [Option.toList_some, Option.toList_none, List.cons_append, List.nil_append]
        refine x_ifb_eq Z 33 dX2_ofQuestion_27 (by decide) (fun c27 => ?_) (fun c27 => ?_)
        ·
          refine x_iinc (L' := [(5, _), (4, _), (0, _), (1, _), (2, _), (3, _)]) Z dX2_ofQuestion_33 rfl (Nat.le_of_ble_eq_true rfl) rfl ?_
          refine x_goto Z 15 dX2_ofQuestion_36 (by decide) ?_
          first | exact ih15 (i + 1) (v + 1) (by omega) ⟨by omega, by omega, by rw [← hif, forI_s (i := i) (by omega), cst_t (P := fun c => so c q) (c27)]⟩ | exact ih15 (i + 1) v (by omega) ⟨by omega, by omega, by rw [← hif, forI_s (i := i) (by omega), cst_f (P := fun c => so c q) (c27)]⟩
        ·
          refine x_iinc (L' := [(4, _), (5, _), (0, _), (1, _), (2, _), (3, _)]) Z dX2_ofQuestion_30 rfl (Nat.le_of_ble_eq_true rfl) rfl ?_
          refine x_iinc (L' := [(5, _), (4, _), (0, _), (1, _), (2, _), (3, _)]) Z dX2_ofQuestion_33 rfl (Nat.le_of_ble_eq_true rfl) rfl ?_
          refine x_goto Z 15 dX2_ofQuestion_36 (by decide) ?_
          first | exact ih15 (i + 1) (v + 1) (by omega) ⟨by omega, by omega, by rw [← hif, forI_s (i := i) (by omega), cst_t (P := fun c => so c q) (c27)]⟩ | exact ih15 (i + 1) v (by omega) ⟨by omega, by omega, by rw [← hif, forI_s (i := i) (by omega), cst_f (P := fun c => so c q) (c27)]⟩
  exact loop15 300 f 0 (by omega) ⟨by omega, by omega, rfl⟩
abbrev rmc_X2_kinds : Room := { frames := 8, cells := 3, slots := 18, locals := 141 }
set_option maxRecDepth 100000 in
theorem c_X2_kinds {l : Launch} {s0 : State} {G : gK} {w : wd} (h0 : gS0 s0) (htr : l.stackTraces = false) {K : kA} {M : kM} {f : Int} {t : Int} (hS : kS G w K M) (hf : inr f) (ht : inr t) : gM l s0 G yX2_kinds [Cond.code yX2_kinds cX2_kinds 5 (some .int)] rmc_X2_kinds [rv K.1, iv f, iv t] w (fun v w' => (v = some (iv (forI (fun (c v : Int) => bOr v (bShl 1 (kin c))) f (t + 1) 0)) ∧ w' = w) ∧ (0 ≤ f ∧ f < 256 ∧ 0 ≤ t ∧ t < 256 ∧ f ≤ t)) (fun X w' => X = "java/lang/IllegalArgumentException" ∧ w' = w ∧ ¬ (0 ≤ f ∧ f < 256 ∧ 0 ≤ t ∧ t < 256 ∧ f ≤ t)) := by
  refine g_of h0 htr (by decide +kernel) (Nat.le_of_ble_eq_true rfl) ?_
  intro b Z0 E
  have Z : gAm b l s0 G cX2_kinds RX2 5 rmc_X2_kinds := Z0
  refine x_el (L' := [(0, rv K.1), (1, iv f), (2, iv t)]) rfl ?_
  refine x_iload_n Z dX2_kinds_0 rfl rfl ?_
  refine x_iload_n Z dX2_kinds_1 rfl rfl ?_
  refine x_callSx Z okX2_checkSpan q544 q545 dX2_kinds_2 (c_X2_checkSpan h0 htr (by assumption) (by assumption)) ⟨Nat.le_of_ble_eq_true rfl, Nat.le_of_ble_eq_true rfl, Nat.le_of_ble_eq_true rfl, Nat.le_of_ble_eq_true rfl⟩ rfl rfl (Nat.le_of_ble_eq_true rfl) (fun X w9 hX => x_out Z E (⟨hX.1, hX.2.1, fun h => hX.2.2 (by omega)⟩) (Nat.le_of_ble_eq_true rfl) (Nat.le_of_ble_eq_true rfl)) (fun v9 w9 hR => ?_)
  obtain ⟨⟨rfl, e9⟩, hf0, hft, ht9⟩ := hR
  refine x_ew e9 ?_
  simp only [Option.toList_some, Option.toList_none, List.cons_append, List.nil_append]
  refine x_iconst Z dX2_kinds_5 ?_
  refine x_istore_n (L' := [(3, _), (0, _), (1, _), (2, _)]) Z dX2_kinds_6 rfl (Nat.le_of_ble_eq_true rfl) rfl ?_
  refine x_iload_n Z dX2_kinds_7 rfl rfl ?_
  refine x_istore (L' := [(4, _), (3, _), (0, _), (1, _), (2, _)]) Z dX2_kinds_8 (Nat.le_of_ble_eq_true rfl) rfl ?_
  have loop10 : ∀ (fu : Nat) (i v : Int), t + 1 - i < (fu : Int) → (f ≤ i ∧ i ≤ t + 1 ∧ forI (fun (c v : Int) => bOr v (bShl 1 (kin c))) i (t + 1) v = forI (fun (c v : Int) => bOr v (bShl 1 (kin c))) f (t + 1) 0) → gX b s0 G (3) (18) 10 [(4, iv i), (3, iv v), (0, rv K.1), (1, iv f), (2, iv t)] [] (w) := by
    intro fu; induction fu with
    | zero => intro i v hm hv; exact absurd hm (by omega)
    | succ fu ih10 =>
      intro i v hm hv
      obtain ⟨hi0, hin, hif⟩ := hv
      refine x_iload Z dX2_kinds_10 rfl ?_
      refine x_iload_n Z dX2_kinds_12 rfl rfl ?_
      refine x_icmp_gt Z 32 dX2_kinds_13 (by decide) ⟨by omega, by omega⟩ ⟨by omega, by omega⟩ (fun c13 => ?_) (fun c13 => ?_)
      ·
        refine x_iload_n Z dX2_kinds_32 rfl rfl ?_
        exact x_iret Z E (⟨⟨by rw [← hif, forI_e (by omega)], rfl⟩, by omega⟩) dX2_kinds_33 (Nat.le_of_ble_eq_true rfl) (Nat.le_of_ble_eq_true rfl)
      ·
        refine x_iload_n Z dX2_kinds_16 rfl rfl ?_
        refine x_iconst Z dX2_kinds_17 ?_
        refine x_iload Z dX2_kinds_18 rfl ?_
        refine x_callS Z okX0_kindNumber q108 q109 dX2_kinds_20 (c_X0_kindNumber h0 htr (by omega) (by omega)) ⟨Nat.le_of_ble_eq_true rfl, Nat.le_of_ble_eq_true rfl, Nat.le_of_ble_eq_true rfl, Nat.le_of_ble_eq_true rfl⟩ rfl rfl (Nat.le_of_ble_eq_true rfl) (fun v9 w9 hR => ?_)
        obtain ⟨rfl, e9⟩ := hR
        refine x_ew e9 ?_
        simp only [Option.toList_some, Option.toList_none, List.cons_append, List.nil_append]
        refine x_ishl Z dX2_kinds_23 ?_
        refine x_ior Z dX2_kinds_24 ?_
        refine x_istore_n (L' := [(3, _), (4, _), (0, _), (1, _), (2, _)]) Z dX2_kinds_25 rfl (Nat.le_of_ble_eq_true rfl) rfl ?_
        refine x_iinc (L' := [(4, _), (3, _), (0, _), (1, _), (2, _)]) Z dX2_kinds_26 rfl (Nat.le_of_ble_eq_true rfl) rfl ?_
        refine x_goto Z 10 dX2_kinds_29 (by decide) ?_
        exact ih10 (i + 1) _ (by omega) ⟨by omega, by omega, by rw [← hif, forI_s (i := i) (by omega)]⟩
  exact loop10 300 f 0 (by omega) ⟨by omega, by omega, rfl⟩
abbrev rmc_X2_both : Room := { frames := 7, cells := 2, slots := 12, locals := 120 }
set_option maxRecDepth 100000 in
theorem c_X2_both {l : Launch} {s0 : State} {G : gK} {w : wd} (h0 : gS0 s0) (htr : l.stackTraces = false) {K : kA} {M : kM} {k1 : Int} {q : Int} (hS : kS G w K M) (hk1 : inr k1) (hq : inr q) : gM l s0 G yX2_both [Cond.code yX2_both cX2_both 5 (some .int)] rmc_X2_both [rv K.1, iv k1, iv q] w (fun v w' => (v = some (iv (forI (cst (fun c => decide (kin c = k1) && so c q)) 0 256 0)) ∧ w' = w) ∧ (((0 ≤ k1 ∧ k1 < 31)) ∧ (0 ≤ q ∧ q < 14))) (fun X w' => X = "java/lang/IllegalArgumentException" ∧ w' = w ∧ ¬ (((0 ≤ k1 ∧ k1 < 31)) ∧ (0 ≤ q ∧ q < 14))) := by
  refine g_of h0 htr (by decide +kernel) (Nat.le_of_ble_eq_true rfl) ?_
  intro b Z0 E
  have Z : gAm b l s0 G cX2_both RX2 5 rmc_X2_both := Z0
  refine x_el (L' := [(0, rv K.1), (1, iv k1), (2, iv q)]) rfl ?_
  refine x_iload_n Z dX2_both_0 rfl rfl ?_
  refine x_callSx Z okX2_checkKind q464 q465 dX2_both_1 (c_X2_checkKind h0 htr (by assumption)) ⟨Nat.le_of_ble_eq_true rfl, Nat.le_of_ble_eq_true rfl, Nat.le_of_ble_eq_true rfl, Nat.le_of_ble_eq_true rfl⟩ rfl rfl (Nat.le_of_ble_eq_true rfl) (fun X w9 hX => x_out Z E (⟨hX.1, hX.2.1, fun h => hX.2.2 (by omega)⟩) (Nat.le_of_ble_eq_true rfl) (Nat.le_of_ble_eq_true rfl)) (fun v9 w9 hR => ?_)
  obtain ⟨⟨rfl, e9⟩, k0, k9⟩ := hR
  refine x_ew e9 ?_
  simp only [Option.toList_some, Option.toList_none, List.cons_append, List.nil_append]
  refine x_iload_n Z dX2_both_4 rfl rfl ?_
  refine x_callSx Z okX2_checkQuestion q450 q451 dX2_both_5 (c_X2_checkQuestion h0 htr (by assumption)) ⟨Nat.le_of_ble_eq_true rfl, Nat.le_of_ble_eq_true rfl, Nat.le_of_ble_eq_true rfl, Nat.le_of_ble_eq_true rfl⟩ rfl rfl (Nat.le_of_ble_eq_true rfl) (fun X w9 hX => x_out Z E (⟨hX.1, hX.2.1, fun h => hX.2.2 (by omega)⟩) (Nat.le_of_ble_eq_true rfl) (Nat.le_of_ble_eq_true rfl)) (fun v9 w9 hR => ?_)
  obtain ⟨⟨rfl, e9⟩, q0, q9⟩ := hR
  refine x_ew e9 ?_
  simp only [Option.toList_some, Option.toList_none, List.cons_append, List.nil_append]
  refine x_iconst Z dX2_both_8 ?_
  refine x_istore_n (L' := [(3, _), (0, _), (1, _), (2, _)]) Z dX2_both_9 rfl (Nat.le_of_ble_eq_true rfl) rfl ?_
  refine x_iconst Z dX2_both_10 ?_
  refine x_istore (L' := [(4, _), (3, _), (0, _), (1, _), (2, _)]) Z dX2_both_11 (Nat.le_of_ble_eq_true rfl) rfl ?_
  have loop13 : ∀ (fu : Nat) (i v : Int), 256 - i < (fu : Int) → (0 ≤ i ∧ i ≤ 256 ∧ forI (cst (fun c => decide (kin c = k1) && so c q)) i (256) v = forI (cst (fun c => decide (kin c = k1) && so c q)) 0 (256) 0) → gX b s0 G (2) (12) 13 [(4, iv i), (3, iv v), (0, rv K.1), (1, iv k1), (2, iv q)] [] (w) := by
    intro fu; induction fu with
    | zero => intro i v hm hv; exact absurd hm (by omega)
    | succ fu ih13 =>
      intro i v hm hv
      obtain ⟨hi0, hin, hif⟩ := hv
      have hki := kin_in i
      refine x_iload Z dX2_both_13 rfl ?_
      refine x_sipush Z dX2_both_15 (by decide +kernel) ?_
      refine x_icmp_gt Z 48 dX2_both_18 (by decide) ⟨by omega, by omega⟩ ⟨by omega, by omega⟩ (fun c18 => ?_) (fun c18 => ?_)
      ·
        refine x_iload_n Z dX2_both_48 rfl rfl ?_
        exact x_iret Z E (⟨⟨by rw [← hif, forI_e (by omega)], rfl⟩, by omega⟩) dX2_both_49 (Nat.le_of_ble_eq_true rfl) (Nat.le_of_ble_eq_true rfl)
      ·
        refine x_iload Z dX2_both_21 rfl ?_
        refine x_callS Z okX0_kindNumber q108 q109 dX2_both_23 (c_X0_kindNumber h0 htr (by omega) (by omega)) ⟨Nat.le_of_ble_eq_true rfl, Nat.le_of_ble_eq_true rfl, Nat.le_of_ble_eq_true rfl, Nat.le_of_ble_eq_true rfl⟩ rfl rfl (Nat.le_of_ble_eq_true rfl) (fun v9 w9 hR => ?_)
        obtain ⟨rfl, e9⟩ := hR
        refine x_ew e9 ?_
        simp only [Option.toList_some, Option.toList_none, List.cons_append, List.nil_append]
        refine x_iload_n Z dX2_both_26 rfl rfl ?_
        refine x_icmp_ne Z 42 dX2_both_27 (by decide) ⟨by omega, by omega⟩ ⟨by omega, by omega⟩ (fun c27 => ?_) (fun c27 => ?_)
        ·
          refine x_iinc (L' := [(4, _), (3, _), (0, _), (1, _), (2, _)]) Z dX2_both_42 rfl (Nat.le_of_ble_eq_true rfl) rfl ?_
          refine x_goto Z 13 dX2_both_45 (by decide) ?_
          first | exact ih13 (i + 1) (v + 1) (by omega) ⟨by omega, by omega, by rw [← hif, forI_s (i := i) (by omega), cst_t (P := fun c => decide (kin c = k1) && so c q) (by first | (simp [c27, c36]; done) | (simp [c27]; done))]⟩ | exact ih13 (i + 1) v (by omega) ⟨by omega, by omega, by rw [← hif, forI_s (i := i) (by omega), cst_f (P := fun c => decide (kin c = k1) && so c q) (by first | (simp [c27, c36]; done) | (simp [c27]; done))]⟩
        ·
          refine x_iload Z dX2_both_30 rfl ?_
          refine x_iload_n Z dX2_both_32 rfl rfl ?_
          refine x_callS Z okX0_isSo q508 q135 dX2_both_33 (c_X0_isSo h0 htr (by omega) (by omega) (by omega) (by omega)) ⟨Nat.le_of_ble_eq_true rfl, Nat.le_of_ble_eq_true rfl, Nat.le_of_ble_eq_true rfl, Nat.le_of_ble_eq_true rfl⟩ rfl rfl (Nat.le_of_ble_eq_true rfl) (fun v9 w9 hR => ?_)
          obtain ⟨rfl, e9⟩ := hR
          refine x_ew e9 ?_
          simp only [Option.toList_some, Option.toList_none, List.cons_append, List.nil_append]
          refine x_ifb_eq Z 42 dX2_both_36 (by decide) (fun c36 => ?_) (fun c36 => ?_)
          ·
            refine x_iinc (L' := [(4, _), (3, _), (0, _), (1, _), (2, _)]) Z dX2_both_42 rfl (Nat.le_of_ble_eq_true rfl) rfl ?_
            refine x_goto Z 13 dX2_both_45 (by decide) ?_
            first | exact ih13 (i + 1) (v + 1) (by omega) ⟨by omega, by omega, by rw [← hif, forI_s (i := i) (by omega), cst_t (P := fun c => decide (kin c = k1) && so c q) (by first | (simp [c27, c36]; done) | (simp [c27]; done))]⟩ | exact ih13 (i + 1) v (by omega) ⟨by omega, by omega, by rw [← hif, forI_s (i := i) (by omega), cst_f (P := fun c => decide (kin c = k1) && so c q) (by first | (simp [c27, c36]; done) | (simp [c27]; done))]⟩
          ·
            refine x_iinc (L' := [(3, _), (4, _), (0, _), (1, _), (2, _)]) Z dX2_both_39 rfl (Nat.le_of_ble_eq_true rfl) rfl ?_
            refine x_iinc (L' := [(4, _), (3, _), (0, _), (1, _), (2, _)]) Z dX2_both_42 rfl (Nat.le_of_ble_eq_true rfl) rfl ?_
            refine x_goto Z 13 dX2_both_45 (by decide) ?_
            first | exact ih13 (i + 1) (v + 1) (by omega) ⟨by omega, by omega, by rw [← hif, forI_s (i := i) (by omega), cst_t (P := fun c => decide (kin c = k1) && so c q) (by first | (simp [c27, c36]; done) | (simp [c27]; done))]⟩ | exact ih13 (i + 1) v (by omega) ⟨by omega, by omega, by rw [← hif, forI_s (i := i) (by omega), cst_f (P := fun c => decide (kin c = k1) && so c q) (by first | (simp [c27, c36]; done) | (simp [c27]; done))]⟩
  exact loop13 300 0 0 (by omega) ⟨by omega, by omega, rfl⟩
abbrev rmc_X2_within : Room := { frames := 7, cells := 2, slots := 12, locals := 120 }
set_option maxRecDepth 100000 in
theorem c_X2_within {l : Launch} {s0 : State} {G : gK} {w : wd} (h0 : gS0 s0) (htr : l.stackTraces = false) {K : kA} {M : kM} {q : Int} {u : Int} (hS : kS G w K M) (hq : inr q) (hu : inr u) : gM l s0 G yX2_within [Cond.code yX2_within cX2_within 4 (some .boolean)] rmc_X2_within [rv K.1, iv q, iv u] w (fun v w' => (v = some (iv (b2 (decide (findI (fun c => so c q && !so c u) 0 256 = 256)))) ∧ w' = w) ∧ (((0 ≤ q ∧ q < 14)) ∧ 0 ≤ u ∧ u < 14)) (fun X w' => X = "java/lang/IllegalArgumentException" ∧ w' = w ∧ ¬ (((0 ≤ q ∧ q < 14)) ∧ 0 ≤ u ∧ u < 14)) := by
  refine g_of h0 htr (by decide +kernel) (Nat.le_of_ble_eq_true rfl) ?_
  intro b Z0 E
  have Z : gAm b l s0 G cX2_within RX2 4 rmc_X2_within := Z0
  refine x_el (L' := [(0, rv K.1), (1, iv q), (2, iv u)]) rfl ?_
  refine x_iload_n Z dX2_within_0 rfl rfl ?_
  refine x_callSx Z okX2_checkQuestion q450 q451 dX2_within_1 (c_X2_checkQuestion h0 htr (by assumption)) ⟨Nat.le_of_ble_eq_true rfl, Nat.le_of_ble_eq_true rfl, Nat.le_of_ble_eq_true rfl, Nat.le_of_ble_eq_true rfl⟩ rfl rfl (Nat.le_of_ble_eq_true rfl) (fun X w9 hX => x_out Z E (⟨hX.1, hX.2.1, fun h => hX.2.2 (by omega)⟩) (Nat.le_of_ble_eq_true rfl) (Nat.le_of_ble_eq_true rfl)) (fun v9 w9 hR => ?_)
  obtain ⟨⟨rfl, e9⟩, q0, q9⟩ := hR
  refine x_ew e9 ?_
  simp only [Option.toList_some, Option.toList_none, List.cons_append, List.nil_append]
  refine x_iload_n Z dX2_within_4 rfl rfl ?_
  refine x_callSx Z okX2_checkQuestion q450 q451 dX2_within_5 (c_X2_checkQuestion h0 htr (by assumption)) ⟨Nat.le_of_ble_eq_true rfl, Nat.le_of_ble_eq_true rfl, Nat.le_of_ble_eq_true rfl, Nat.le_of_ble_eq_true rfl⟩ rfl rfl (Nat.le_of_ble_eq_true rfl) (fun X w9 hX => x_out Z E (⟨hX.1, hX.2.1, fun h => hX.2.2 (by omega)⟩) (Nat.le_of_ble_eq_true rfl) (Nat.le_of_ble_eq_true rfl)) (fun v9 w9 hR => ?_)
  obtain ⟨⟨rfl, e9⟩, u0, u9⟩ := hR
  refine x_ew e9 ?_
  simp only [Option.toList_some, Option.toList_none, List.cons_append, List.nil_append]
  refine x_iconst Z dX2_within_8 ?_
  refine x_istore_n (L' := [(3, _), (0, _), (1, _), (2, _)]) Z dX2_within_9 rfl (Nat.le_of_ble_eq_true rfl) rfl ?_
  have loop10 : ∀ (fu : Nat) (i : Int), 256 - i < (fu : Int) → (0 ≤ i ∧ i ≤ 256 ∧ findI (fun c => so c q && !so c u) i 256 = findI (fun c => so c q && !so c u) 0 256) → gX b s0 G (2) (12) 10 [(3, iv i), (0, rv K.1), (1, iv q), (2, iv u)] [] (w) := by
    intro fu; induction fu with
    | zero => intro i hm hv; exact absurd hm (by omega)
    | succ fu ih10 =>
      intro i hm hv
      obtain ⟨hi0, hin, hif⟩ := hv
      refine x_iload_n Z dX2_within_10 rfl rfl ?_
      refine x_sipush Z dX2_within_11 (by decide +kernel) ?_
      refine x_icmp_gt Z 41 dX2_within_14 (by decide) ⟨by omega, by omega⟩ ⟨by omega, by omega⟩ (fun c14 => ?_) (fun c14 => ?_)
      ·
        refine x_ib true Z dX2_within_41 (by decide) ?_
        exact x_zret Z E (⟨⟨by rw [← hif, findI_e (by omega), decide_eq_true (by omega)], rfl⟩, by omega⟩) dX2_within_42 (Nat.le_of_ble_eq_true rfl) (Nat.le_of_ble_eq_true rfl)
      ·
        refine x_iload_n Z dX2_within_17 rfl rfl ?_
        refine x_iload_n Z dX2_within_18 rfl rfl ?_
        refine x_callS Z okX0_isSo q508 q135 dX2_within_19 (c_X0_isSo h0 htr (by omega) (by omega) (by omega) (by omega)) ⟨Nat.le_of_ble_eq_true rfl, Nat.le_of_ble_eq_true rfl, Nat.le_of_ble_eq_true rfl, Nat.le_of_ble_eq_true rfl⟩ rfl rfl (Nat.le_of_ble_eq_true rfl) (fun v9 w9 hR => ?_)
        obtain ⟨rfl, e9⟩ := hR
        refine x_ew e9 ?_
        simp only [Option.toList_some, Option.toList_none, List.cons_append, List.nil_append]
        refine x_ifb_eq Z 35 dX2_within_22 (by decide) (fun c22 => ?_) (fun c22 => ?_)
        ·
          refine x_iinc (L' := [(3, _), (0, _), (1, _), (2, _)]) Z dX2_within_35 rfl (Nat.le_of_ble_eq_true rfl) rfl ?_
          refine x_goto Z 10 dX2_within_38 (by decide) ?_
          exact ih10 (i + 1) (by omega) ⟨by omega, by omega, by rw [← hif]; exact (findI_m (by omega) (by first | (simp [c22, c30]; done) | (simp [c22]; done))).symm⟩
        ·
          refine x_iload_n Z dX2_within_25 rfl rfl ?_
          refine x_iload_n Z dX2_within_26 rfl rfl ?_
          refine x_callS Z okX0_isSo q508 q135 dX2_within_27 (c_X0_isSo h0 htr (by omega) (by omega) (by omega) (by omega)) ⟨Nat.le_of_ble_eq_true rfl, Nat.le_of_ble_eq_true rfl, Nat.le_of_ble_eq_true rfl, Nat.le_of_ble_eq_true rfl⟩ rfl rfl (Nat.le_of_ble_eq_true rfl) (fun v9 w9 hR => ?_)
          obtain ⟨rfl, e9⟩ := hR
          refine x_ew e9 ?_
          simp only [Option.toList_some, Option.toList_none, List.cons_append, List.nil_append]
          refine x_ifb_ne Z 35 dX2_within_30 (by decide) (fun c30 => ?_) (fun c30 => ?_)
          ·
            refine x_iinc (L' := [(3, _), (0, _), (1, _), (2, _)]) Z dX2_within_35 rfl (Nat.le_of_ble_eq_true rfl) rfl ?_
            refine x_goto Z 10 dX2_within_38 (by decide) ?_
            exact ih10 (i + 1) (by omega) ⟨by omega, by omega, by rw [← hif]; exact (findI_m (by omega) (by first | (simp [c22, c30]; done) | (simp [c22]; done))).symm⟩
          ·
            refine x_ib false Z dX2_within_33 (by decide) ?_
            exact x_zret Z E (⟨⟨by rw [← hif, findI_h (by simp [c22, c30]), decide_eq_false (by omega)], rfl⟩, by omega⟩) dX2_within_34 (Nat.le_of_ble_eq_true rfl) (Nat.le_of_ble_eq_true rfl)
  exact loop10 300 0 (by omega) ⟨by omega, by omega, rfl⟩
abbrev rmc_X2_differ : Room := { frames := 7, cells := 3, slots := 18, locals := 120 }
set_option maxRecDepth 100000 in
theorem c_X2_differ {l : Launch} {s0 : State} {G : gK} {w : wd} (h0 : gS0 s0) (htr : l.stackTraces = false) {K : kA} {M : kM} {q : Int} {u : Int} {f : Int} (hS : kS G w K M) (hq : inr q) (hu : inr u) (hf : inr f) : gM l s0 G yX2_differ [Cond.code yX2_differ cX2_differ 5 (some .int)] rmc_X2_differ [rv K.1, iv q, iv u, iv f] w (fun v w' => (v = some (iv ((if findI (fun c => so c q != so c u) f 256 < 256 then findI (fun c => so c q != so c u) f 256 else -1))) ∧ w' = w) ∧ (((0 ≤ q ∧ q < 14)) ∧ (0 ≤ u ∧ u < 14) ∧ 0 ≤ f ∧ f < 256)) (fun X w' => X = "java/lang/IllegalArgumentException" ∧ w' = w ∧ ¬ (((0 ≤ q ∧ q < 14)) ∧ (0 ≤ u ∧ u < 14) ∧ 0 ≤ f ∧ f < 256)) := by
  refine g_of h0 htr (by decide +kernel) (Nat.le_of_ble_eq_true rfl) ?_
  intro b Z0 E
  have Z : gAm b l s0 G cX2_differ RX2 5 rmc_X2_differ := Z0
  refine x_el (L' := [(0, rv K.1), (1, iv q), (2, iv u), (3, iv f)]) rfl ?_
  refine x_iload_n Z dX2_differ_0 rfl rfl ?_
  refine x_callSx Z okX2_checkQuestion q450 q451 dX2_differ_1 (c_X2_checkQuestion h0 htr (by assumption)) ⟨Nat.le_of_ble_eq_true rfl, Nat.le_of_ble_eq_true rfl, Nat.le_of_ble_eq_true rfl, Nat.le_of_ble_eq_true rfl⟩ rfl rfl (Nat.le_of_ble_eq_true rfl) (fun X w9 hX => x_out Z E (⟨hX.1, hX.2.1, fun h => hX.2.2 (by omega)⟩) (Nat.le_of_ble_eq_true rfl) (Nat.le_of_ble_eq_true rfl)) (fun v9 w9 hR => ?_)
  obtain ⟨⟨rfl, e9⟩, q0, q9⟩ := hR
  refine x_ew e9 ?_
  simp only [Option.toList_some, Option.toList_none, List.cons_append, List.nil_append]
  refine x_iload_n Z dX2_differ_4 rfl rfl ?_
  refine x_callSx Z okX2_checkQuestion q450 q451 dX2_differ_5 (c_X2_checkQuestion h0 htr (by assumption)) ⟨Nat.le_of_ble_eq_true rfl, Nat.le_of_ble_eq_true rfl, Nat.le_of_ble_eq_true rfl, Nat.le_of_ble_eq_true rfl⟩ rfl rfl (Nat.le_of_ble_eq_true rfl) (fun X w9 hX => x_out Z E (⟨hX.1, hX.2.1, fun h => hX.2.2 (by omega)⟩) (Nat.le_of_ble_eq_true rfl) (Nat.le_of_ble_eq_true rfl)) (fun v9 w9 hR => ?_)
  obtain ⟨⟨rfl, e9⟩, u0, u9⟩ := hR
  refine x_ew e9 ?_
  simp only [Option.toList_some, Option.toList_none, List.cons_append, List.nil_append]
  refine x_iload_n Z dX2_differ_8 rfl rfl ?_
  refine x_callSx Z okX2_checkSign q332 q333 dX2_differ_9 (c_X2_checkSign h0 htr (by assumption)) ⟨Nat.le_of_ble_eq_true rfl, Nat.le_of_ble_eq_true rfl, Nat.le_of_ble_eq_true rfl, Nat.le_of_ble_eq_true rfl⟩ rfl rfl (Nat.le_of_ble_eq_true rfl) (fun X w9 hX => x_out Z E (⟨hX.1, hX.2.1, fun h => hX.2.2 (by omega)⟩) (Nat.le_of_ble_eq_true rfl) (Nat.le_of_ble_eq_true rfl)) (fun v9 w9 hR => ?_)
  obtain ⟨⟨rfl, e9⟩, f0, f9⟩ := hR
  refine x_ew e9 ?_
  simp only [Option.toList_some, Option.toList_none, List.cons_append, List.nil_append]
  refine x_iload_n Z dX2_differ_12 rfl rfl ?_
  refine x_istore (L' := [(4, _), (0, _), (1, _), (2, _), (3, _)]) Z dX2_differ_13 (Nat.le_of_ble_eq_true rfl) rfl ?_
  have loop15 : ∀ (fu : Nat) (i : Int), 256 - i < (fu : Int) → (f ≤ i ∧ i ≤ 256 ∧ findI (fun c => so c q != so c u) i 256 = findI (fun c => so c q != so c u) f 256) → gX b s0 G (3) (18) 15 [(4, iv i), (0, rv K.1), (1, iv q), (2, iv u), (3, iv f)] [] (w) := by
    intro fu; induction fu with
    | zero => intro i hm hv; exact absurd hm (by omega)
    | succ fu ih15 =>
      intro i hm hv
      obtain ⟨hi0, hin, hif⟩ := hv
      refine x_iload Z dX2_differ_15 rfl ?_
      refine x_sipush Z dX2_differ_17 (by decide +kernel) ?_
      refine x_icmp_gt Z 47 dX2_differ_20 (by decide) ⟨by omega, by omega⟩ ⟨by omega, by omega⟩ (fun c20 => ?_) (fun c20 => ?_)
      ·
        refine x_iconst Z dX2_differ_47 ?_
        exact x_iret Z E (⟨⟨by rw [← hif, findI_e (by omega), if_neg (by omega)], rfl⟩, by omega⟩) dX2_differ_48 (Nat.le_of_ble_eq_true rfl) (Nat.le_of_ble_eq_true rfl)
      ·
        refine x_iload Z dX2_differ_23 rfl ?_
        refine x_iload_n Z dX2_differ_25 rfl rfl ?_
        refine x_callS Z okX0_isSo q508 q135 dX2_differ_26 (c_X0_isSo h0 htr (by omega) (by omega) (by omega) (by omega)) ⟨Nat.le_of_ble_eq_true rfl, Nat.le_of_ble_eq_true rfl, Nat.le_of_ble_eq_true rfl, Nat.le_of_ble_eq_true rfl⟩ rfl rfl (Nat.le_of_ble_eq_true rfl) (fun v9 w9 hR => ?_)
        obtain ⟨rfl, e9⟩ := hR
        refine x_ew e9 ?_
        simp only [Option.toList_some, Option.toList_none, List.cons_append, List.nil_append]
        refine x_iload Z dX2_differ_29 rfl ?_
        refine x_iload_n Z dX2_differ_31 rfl rfl ?_
        refine x_callS Z okX0_isSo q508 q135 dX2_differ_32 (c_X0_isSo h0 htr (by omega) (by omega) (by omega) (by omega)) ⟨Nat.le_of_ble_eq_true rfl, Nat.le_of_ble_eq_true rfl, Nat.le_of_ble_eq_true rfl, Nat.le_of_ble_eq_true rfl⟩ rfl rfl (Nat.le_of_ble_eq_true rfl) (fun v9 w9 hR => ?_)
        obtain ⟨rfl, e9⟩ := hR
        refine x_ew e9 ?_
        simp only [Option.toList_some, Option.toList_none, List.cons_append, List.nil_append]
        refine x_icmpb_eq Z 41 dX2_differ_35 (by decide) (fun c35 => ?_) (fun c35 => ?_)
        ·
          refine x_iinc (L' := [(4, _), (0, _), (1, _), (2, _), (3, _)]) Z dX2_differ_41 rfl (Nat.le_of_ble_eq_true rfl) rfl ?_
          refine x_goto Z 15 dX2_differ_44 (by decide) ?_
          exact ih15 (i + 1) (by omega) ⟨by omega, by omega, by rw [← hif]; exact (findI_m (by omega) (by simpa using c35)).symm⟩
        ·
          refine x_iload Z dX2_differ_38 rfl ?_
          exact x_iret Z E (⟨⟨by rw [← hif, findI_h (by simpa using c35), if_pos (by omega)], rfl⟩, by omega⟩) dX2_differ_40 (Nat.le_of_ble_eq_true rfl) (Nat.le_of_ble_eq_true rfl)
  exact loop15 300 f (by omega) ⟨by omega, by omega, rfl⟩
