/-! ref5: walks, by program -/
theorem q14 : Cond.selects RX4 yX4_isPlace yX4_isPlace ∈ gT := gt_s 14 rfl rfl
theorem q19 : Cond.selects RX4 yX4_begin yX4_begin ∈ gT := gt_s 19 rfl rfl
theorem q25 : Cond.selects RX4 yX4_countOf yX4_countOf ∈ gT := gt_s 25 rfl rfl
theorem q26 : Cond.selects RX4 yX4_isNameNow yX4_isNameNow ∈ gT := gt_s 26 rfl rfl
theorem q27 : Cond.selects RX4 yX4_faultOf yX4_faultOf ∈ gT := gt_s 27 rfl rfl
theorem q28 : Cond.selects RX4 yX4_piecesOf yX4_piecesOf ∈ gT := gt_s 28 rfl rfl
theorem q29 : Cond.selects RX4 yX4_cutsOf yX4_cutsOf ∈ gT := gt_s 29 rfl rfl
theorem q30 : Cond.selects RX4 yX4_backOf yX4_backOf ∈ gT := gt_s 30 rfl rfl
theorem q31 : Cond.selects RX4 yX4_fewestOf yX4_fewestOf ∈ gT := gt_s 31 rfl rfl
theorem q1097 : Cond.methodLink RX4 89 yX4_isPlace ∈ gT := gt_5 102 rfl rfl
theorem q1099 : Cond.instanceMethod yX4_isPlace ∈ gT := gt_5 104 rfl rfl
theorem q1100 : Cond.code yX4_isPlace cX4_isPlace 3 (some .boolean) ∈ gT := gt_5 105 rfl rfl
theorem q1171 : Cond.methodLink RX4 117 yX4_begin ∈ gT := gt_5 176 rfl rfl
theorem q1173 : Cond.instanceMethod yX4_begin ∈ gT := gt_5 178 rfl rfl
theorem q1174 : Cond.code yX4_begin cX4_begin 5 (some .int) ∈ gT := gt_5 179 rfl rfl
theorem q1277 : Cond.methodLink RX4 145 yX4_countOf ∈ gT := gt_6 42 rfl rfl
theorem q1279 : Cond.instanceMethod yX4_countOf ∈ gT := gt_6 44 rfl rfl
theorem q1280 : Cond.code yX4_countOf cX4_countOf 5 (some .int) ∈ gT := gt_6 45 rfl rfl
theorem q1301 : Cond.methodLink RX4 148 yX4_isNameNow ∈ gT := gt_6 66 rfl rfl
theorem q1303 : Cond.instanceMethod yX4_isNameNow ∈ gT := gt_6 68 rfl rfl
theorem q1304 : Cond.code yX4_isNameNow cX4_isNameNow 2 (some .boolean) ∈ gT := gt_6 69 rfl rfl
theorem q1309 : Cond.methodLink RX4 151 yX4_faultOf ∈ gT := gt_6 74 rfl rfl
theorem q1311 : Cond.instanceMethod yX4_faultOf ∈ gT := gt_6 76 rfl rfl
theorem q1312 : Cond.code yX4_faultOf cX4_faultOf 3 (some .int) ∈ gT := gt_6 77 rfl rfl
theorem q1325 : Cond.methodLink RX4 154 yX4_piecesOf ∈ gT := gt_6 90 rfl rfl
theorem q1327 : Cond.instanceMethod yX4_piecesOf ∈ gT := gt_6 92 rfl rfl
theorem q1328 : Cond.code yX4_piecesOf cX4_piecesOf 4 (some .int) ∈ gT := gt_6 93 rfl rfl
theorem q1341 : Cond.methodLink RX4 157 yX4_cutsOf ∈ gT := gt_6 106 rfl rfl
theorem q1343 : Cond.instanceMethod yX4_cutsOf ∈ gT := gt_6 108 rfl rfl
theorem q1344 : Cond.code yX4_cutsOf cX4_cutsOf 4 (some .int) ∈ gT := gt_6 109 rfl rfl
theorem q1349 : Cond.methodLink RX4 160 yX4_backOf ∈ gT := gt_6 114 rfl rfl
theorem q1351 : Cond.instanceMethod yX4_backOf ∈ gT := gt_6 116 rfl rfl
theorem q1352 : Cond.code yX4_backOf cX4_backOf 5 (some .int) ∈ gT := gt_6 117 rfl rfl
theorem q1357 : Cond.methodLink RX4 163 yX4_fewestOf ∈ gT := gt_6 122 rfl rfl
theorem q1359 : Cond.instanceMethod yX4_fewestOf ∈ gT := gt_6 124 rfl rfl
theorem q1360 : Cond.code yX4_fewestOf cX4_fewestOf 5 (some .int) ∈ gT := gt_6 125 rfl rfl
theorem okX4_isPlace : gOk yX4_isPlace cX4_isPlace 3 (some .boolean) 2 := ⟨q1100, q38, ⟨by decide +kernel, by decide +kernel⟩, by decide +kernel⟩
theorem okX4_countOf : gOk yX4_countOf cX4_countOf 5 (some .int) 2 := ⟨q1280, q38, ⟨by decide +kernel, by decide +kernel⟩, by decide +kernel⟩
theorem okX4_isNameNow : gOk yX4_isNameNow cX4_isNameNow 2 (some .boolean) 1 := ⟨q1304, q38, ⟨by decide +kernel, by decide +kernel⟩, by decide +kernel⟩
theorem okX4_faultOf : gOk yX4_faultOf cX4_faultOf 3 (some .int) 1 := ⟨q1312, q38, ⟨by decide +kernel, by decide +kernel⟩, by decide +kernel⟩
theorem okX4_piecesOf : gOk yX4_piecesOf cX4_piecesOf 4 (some .int) 1 := ⟨q1328, q38, ⟨by decide +kernel, by decide +kernel⟩, by decide +kernel⟩
theorem okX4_cutsOf : gOk yX4_cutsOf cX4_cutsOf 4 (some .int) 1 := ⟨q1344, q38, ⟨by decide +kernel, by decide +kernel⟩, by decide +kernel⟩
theorem okX4_backOf : gOk yX4_backOf cX4_backOf 5 (some .int) 1 := ⟨q1352, q38, ⟨by decide +kernel, by decide +kernel⟩, by decide +kernel⟩
theorem okX4_fewestOf : gOk yX4_fewestOf cX4_fewestOf 5 (some .int) 1 := ⟨q1360, q38, ⟨by decide +kernel, by decide +kernel⟩, by decide +kernel⟩
theorem okX4_begin : gOk yX4_begin cX4_begin 5 (some .int) 2 := ⟨q1174, q38, ⟨by decide +kernel, by decide +kernel⟩, by decide +kernel⟩
abbrev rmc_X4_length : Room := { frames := 2, cells := 0, slots := 0, locals := 43 }
set_option maxRecDepth 100000 in
theorem c_X4_length {l : Launch} {s0 : State} {G : gK} {w : wd} (h0 : gS0 s0) (htr : l.stackTraces = false) {R : rA} {S : rM} {t : Int} (hS : rS G w R S) (hit : inr t) : gM l s0 G yX4_length [Cond.code yX4_length cX4_length 2 (some .int)] rmc_X4_length [rv R.1, iv t] w (fun v w' => ∃ (z : Int) (T : Int), v = some (iv z) ∧ rS G w' R (rT S T) ∧ fr (rP R S.1) w w' ∧ ((T = 1 ∧ ¬ (0 ≤ t ∧ t < 3)) ∨ (T = 0 ∧ (0 ≤ t ∧ t < 3) ∧ (z = S.2.1 t)))) (noX) := by
  refine g_of h0 htr (by decide +kernel) (Nat.le_of_ble_eq_true rfl) ?_
  intro b Z0 E
  have Z : gAm b l s0 G cX4_length RX4 2 rmc_X4_length := Z0
  refine x_el (L' := [(0, rv R.1), (1, iv t)]) rfl ?_
  obtain ⟨hr1, hr2, ⟨f3, hr3, hf3⟩, hr4, hr5, hr6⟩ := id hS
  have hf0 : fr (rP R S.1) w w := fr.rf
  have join13 : ∀ (c1 : Bool), (c1 = true ↔ ¬ (0 ≤ t ∧ t < 3)) → gX b s0 G (0) (0) 13 [(0, rv R.1), (1, iv t)] [iv (b2 c1), rv R.1] (w) := by
    intro c1 hv
    have hc1 := hv
    refine x_callV (ci := 5) (C := RX4) (T := TX4) (N := 7) Z okX4_isThrown_ q1106 q1108 q15 rfl dX4_length_13 (c_X4_isThrown_ h0 htr hS) hS.1 ⟨Nat.le_of_ble_eq_true rfl, Nat.le_of_ble_eq_true rfl, Nat.le_of_ble_eq_true rfl, Nat.le_of_ble_eq_true rfl⟩ rfl rfl (Nat.le_of_ble_eq_true rfl) (fun v9 w9 hR => ?_)
    obtain ⟨rfl, hS, hf9⟩ := hR
    have hf0 := hf0.tr hf9
    simp only [Option.toList_some, Option.toList_none, List.cons_append, List.nil_append]
    refine x_ifb_eq Z 23 dX4_length_16 (by decide) (fun c16 => ?_) (fun c16 => ?_)
    ·
      have ea := c16
      have o1 := bq_n hc1 ea
      subst ea
      obtain ⟨hr1, hr2, ⟨f3, hr3, hf3⟩, hr4, hr5, hr6⟩ := id hS
      obtain ⟨hrt, hn0, hn30, hC⟩ := hr5 t (by omega) (by omega)
      try dsimp only [rT] at hr1 hf3 hr4 hr5 hr6
      try dsimp only [rT] at hrt hn0 hn30 hC
      have en : (rT S (th2 false false)).2.1 t = S.2.1 t := rfl
      refine x_aload_n Z dX4_length_23 rfl rfl ?_
      refine x_getf (ci := 5) (j := 2) (C := RX4) (T := TX4) (N := 7) Z inX4g rfl (by decide) q1043 rfl dX4_length_24 (by assumption) rfl ?_
      refine x_iload_n Z dX4_length_27 rfl rfl ?_
      refine x_iald Z dX4_length_28 (by assumption) (by omega) (by omega) (by omega) ?_
      exact x_iret Z E (by first | exact ⟨_, _, rfl, hS, hf0, Or.inl ⟨by rw [hbad]; rfl, hc1.mp hbad⟩⟩ | exact ⟨_, _, rfl, hS, hf0, Or.inr ⟨rfl, o1, rfl⟩⟩) dX4_length_29 (Nat.le_of_ble_eq_true rfl) (Nat.le_of_ble_eq_true rfl)
    ·
      have hbad := c16
      refine x_iconst Z dX4_length_19 ?_
      refine x_goto Z 29 dX4_length_20 (by decide) ?_
      exact x_iret Z E (by first | exact ⟨_, _, rfl, hS, hf0, Or.inl ⟨by rw [hbad]; rfl, hc1.mp hbad⟩⟩ | exact ⟨_, _, rfl, hS, hf0, Or.inr ⟨rfl, o1, rfl⟩⟩) dX4_length_29 (Nat.le_of_ble_eq_true rfl) (Nat.le_of_ble_eq_true rfl)
  refine x_aload_n Z dX4_length_0 rfl rfl ?_
  refine x_iload_n Z dX4_length_1 rfl rfl ?_
  refine x_callS Z okX4_is q1071 q1072 dX4_length_2 (c_X4_is h0 htr (by assumption)) ⟨Nat.le_of_ble_eq_true rfl, Nat.le_of_ble_eq_true rfl, Nat.le_of_ble_eq_true rfl, Nat.le_of_ble_eq_true rfl⟩ rfl rfl (Nat.le_of_ble_eq_true rfl) (fun v9 w9 hR => ?_)
  obtain ⟨o9, rfl, e9, hq⟩ := hR
  refine x_ew e9 ?_
  simp only [Option.toList_some, Option.toList_none, List.cons_append, List.nil_append]
  refine x_ifb_ne Z 12 dX4_length_5 (by decide) (fun c5 => ?_) (fun c5 => ?_)
  ·
    have f5 := bq_t hq c5
    refine x_ib false Z dX4_length_12 (by decide) ?_
    exact join13 _ (by first | exact ⟨fun _ => by omega, fun _ => rfl⟩ | exact ⟨fun h => absurd h (by decide), fun h => (h (by omega)).elim⟩)
  ·
    have f5 := bq_f hq c5
    refine x_ib true Z dX4_length_8 (by decide) ?_
    refine x_goto Z 13 dX4_length_9 (by decide) ?_
    exact join13 _ (by first | exact ⟨fun _ => by omega, fun _ => rfl⟩ | exact ⟨fun h => absurd h (by decide), fun h => (h (by omega)).elim⟩)
abbrev rmc_X4_sign : Room := { frames := 2, cells := 0, slots := 0, locals := 43 }
set_option maxRecDepth 100000 in
theorem c_X4_sign {l : Launch} {s0 : State} {G : gK} {w : wd} (h0 : gS0 s0) (htr : l.stackTraces = false) {R : rA} {S : rM} {t : Int} {p : Int} (hS : rS G w R S) (hit : inr t) (hip : inr p) : gM l s0 G yX4_sign [Cond.code yX4_sign cX4_sign 3 (some .int)] rmc_X4_sign [rv R.1, iv t, iv p] w (fun v w' => ∃ (z : Int) (T : Int), v = some (iv z) ∧ rS G w' R (rT S T) ∧ fr (rP R S.1) w w' ∧ ((T = 1 ∧ ¬ ((0 ≤ t ∧ t < 3) ∧ 0 ≤ p ∧ p < S.2.1 t)) ∨ (T = 0 ∧ ((0 ≤ t ∧ t < 3) ∧ 0 ≤ p ∧ p < S.2.1 t) ∧ (z = S.2.2.1 t p)))) (noX) := by
  refine g_of h0 htr (by decide +kernel) (Nat.le_of_ble_eq_true rfl) ?_
  intro b Z0 E
  have Z : gAm b l s0 G cX4_sign RX4 3 rmc_X4_sign := Z0
  refine x_el (L' := [(0, rv R.1), (1, iv t), (2, iv p)]) rfl ?_
  obtain ⟨hr1, hr2, ⟨f3, hr3, hf3⟩, hr4, hr5, hr6⟩ := id hS
  have hf0 : fr (rP R S.1) w w := fr.rf
  have join15 : ∀ (c1 : Bool), (c1 = true ↔ ¬ ((0 ≤ t ∧ t < 3) ∧ 0 ≤ p ∧ p < S.2.1 t)) → gX b s0 G (0) (0) 15 [(0, rv R.1), (1, iv t), (2, iv p)] [iv (b2 c1), rv R.1] (w) := by
    intro c1 hv
    have hc1 := hv
    refine x_callV (ci := 5) (C := RX4) (T := TX4) (N := 7) Z okX4_isThrown_ q1106 q1108 q15 rfl dX4_sign_15 (c_X4_isThrown_ h0 htr hS) hS.1 ⟨Nat.le_of_ble_eq_true rfl, Nat.le_of_ble_eq_true rfl, Nat.le_of_ble_eq_true rfl, Nat.le_of_ble_eq_true rfl⟩ rfl rfl (Nat.le_of_ble_eq_true rfl) (fun v9 w9 hR => ?_)
    obtain ⟨rfl, hS, hf9⟩ := hR
    have hf0 := hf0.tr hf9
    simp only [Option.toList_some, Option.toList_none, List.cons_append, List.nil_append]
    refine x_ifb_eq Z 25 dX4_sign_18 (by decide) (fun c18 => ?_) (fun c18 => ?_)
    ·
      have ea := c18
      have o1 := bq_n hc1 ea
      subst ea
      obtain ⟨hr1, hr2, ⟨f3, hr3, hf3⟩, hr4, hr5, hr6⟩ := id hS
      obtain ⟨hrt, hn0, hn30, hC⟩ := hr5 t (by omega) (by omega)
      try dsimp only [rT] at hr1 hf3 hr4 hr5 hr6
      try dsimp only [rT] at hrt hn0 hn30 hC
      have en : (rT S (th2 false false)).2.1 t = S.2.1 t := rfl
      refine x_aload_n Z dX4_sign_25 rfl rfl ?_
      refine x_getf (ci := 5) (j := 1) (C := RX4) (T := TX4) (N := 7) Z inX4g rfl (by decide) q1042 rfl dX4_sign_26 (by assumption) rfl ?_
      refine x_iload_n Z dX4_sign_29 rfl rfl ?_
      refine x_aaldR Z dX4_sign_30 hr3 (by decide) (by omega) (by omega) (hf3 t (by omega) (by omega)) ?_
      refine x_iload_n Z dX4_sign_31 rfl rfl ?_
      refine x_iald Z dX4_sign_32 (by assumption) (by omega) (by omega) (by omega) ?_
      exact x_iret Z E (by first | exact ⟨_, _, rfl, hS, hf0, Or.inl ⟨by rw [hbad]; rfl, hc1.mp hbad⟩⟩ | exact ⟨_, _, rfl, hS, hf0, Or.inr ⟨rfl, o1, rfl⟩⟩) dX4_sign_33 (Nat.le_of_ble_eq_true rfl) (Nat.le_of_ble_eq_true rfl)
    ·
      have hbad := c18
      refine x_iconst Z dX4_sign_21 ?_
      refine x_goto Z 33 dX4_sign_22 (by decide) ?_
      exact x_iret Z E (by first | exact ⟨_, _, rfl, hS, hf0, Or.inl ⟨by rw [hbad]; rfl, hc1.mp hbad⟩⟩ | exact ⟨_, _, rfl, hS, hf0, Or.inr ⟨rfl, o1, rfl⟩⟩) dX4_sign_33 (Nat.le_of_ble_eq_true rfl) (Nat.le_of_ble_eq_true rfl)
  refine x_aload_n Z dX4_sign_0 rfl rfl ?_
  refine x_aload_n Z dX4_sign_1 rfl rfl ?_
  refine x_iload_n Z dX4_sign_2 rfl rfl ?_
  refine x_iload_n Z dX4_sign_3 rfl rfl ?_
  refine x_callV (ci := 5) (C := RX4) (T := TX4) (N := 7) Z okX4_isPlace q1097 q1099 q14 rfl dX4_sign_4 (c_X4_isPlace h0 htr hS (by assumption) (by assumption)) hS.1 ⟨Nat.le_of_ble_eq_true rfl, Nat.le_of_ble_eq_true rfl, Nat.le_of_ble_eq_true rfl, Nat.le_of_ble_eq_true rfl⟩ rfl rfl (Nat.le_of_ble_eq_true rfl) (fun v9 w9 hR => ?_)
  obtain ⟨o9, rfl, e9, hq⟩ := hR
  refine x_ew e9 ?_
  simp only [Option.toList_some, Option.toList_none, List.cons_append, List.nil_append]
  refine x_ifb_ne Z 14 dX4_sign_7 (by decide) (fun c7 => ?_) (fun c7 => ?_)
  ·
    have f7 := bq_t hq c7
    refine x_ib false Z dX4_sign_14 (by decide) ?_
    exact join15 _ (by first | exact ⟨fun _ => by omega, fun _ => rfl⟩ | exact ⟨fun h => absurd h (by decide), fun h => (h (by omega)).elim⟩)
  ·
    have f7 := bq_f hq c7
    refine x_ib true Z dX4_sign_10 (by decide) ?_
    refine x_goto Z 15 dX4_sign_11 (by decide) ?_
    exact join15 _ (by first | exact ⟨fun _ => by omega, fun _ => rfl⟩ | exact ⟨fun h => absurd h (by decide), fun h => (h (by omega)).elim⟩)
abbrev rmc_X4_countOf : Room := { frames := 3, cells := 0, slots := 0, locals := 66 }
set_option maxRecDepth 100000 in
theorem c_X4_countOf {l : Launch} {s0 : State} {G : gK} {w : wd} (h0 : gS0 s0) (htr : l.stackTraces = false) {R : rA} {S : rM} {t : Int} {q : Int} (hS : rS G w R S) (t0 : 0 ≤ t) (t3 : t < 3) (h4 : 0 ≤ q) (h5 : q ≤ 13) : gM l s0 G yX4_countOf [Cond.code yX4_countOf cX4_countOf 5 (some .int)] rmc_X4_countOf [rv R.1, iv t, iv q] w (fun v w' => v = some (iv (forI (cst (fun j => so (S.2.2.1 t j) q)) 0 (S.2.1 t) 0)) ∧ w' = w) (noX) := by
  refine g_of h0 htr (by decide +kernel) (Nat.le_of_ble_eq_true rfl) ?_
  intro b Z0 E
  have Z : gAm b l s0 G cX4_countOf RX4 5 rmc_X4_countOf := Z0
  refine x_el (L' := [(0, rv R.1), (1, iv t), (2, iv q)]) rfl ?_
  obtain ⟨hr1, hr2, ⟨f3, hr3, hf3⟩, hr4, hr5, hr6⟩ := id hS
  obtain ⟨hrt, hn0, hn30, hC⟩ := hr5 t (by omega) (by omega)
  refine x_iconst Z dX4_countOf_0 ?_
  refine x_istore_n (L' := [(3, _), (0, _), (1, _), (2, _)]) Z dX4_countOf_1 rfl (Nat.le_of_ble_eq_true rfl) rfl ?_
  refine x_iconst Z dX4_countOf_2 ?_
  refine x_istore (L' := [(4, _), (3, _), (0, _), (1, _), (2, _)]) Z dX4_countOf_3 (Nat.le_of_ble_eq_true rfl) rfl ?_
  have loop5 : ∀ (fu : Nat) (i v : Int), (S.2.1 t) - i < (fu : Int) → (0 ≤ i ∧ i ≤ (S.2.1 t) ∧ forI (cst (fun j => so (S.2.2.1 t j) q)) i (S.2.1 t) v = forI (cst (fun j => so (S.2.2.1 t j) q)) 0 (S.2.1 t) 0) → gX b s0 G (0) (0) 5 [(4, iv i), (3, iv v), (0, rv R.1), (1, iv t), (2, iv q)] [] (w) := by
    intro fu; induction fu with
    | zero => intro i v hm hv; exact absurd hm (by omega)
    | succ fu ih5 =>
      intro i v hm hv
      obtain ⟨hi0, hin, hif⟩ := hv
      have hCi := hC i
      refine x_iload Z dX4_countOf_5 rfl ?_
      refine x_aload_n Z dX4_countOf_7 rfl rfl ?_
      refine x_getf (ci := 5) (j := 2) (C := RX4) (T := TX4) (N := 7) Z inX4g rfl (by decide) q1043 rfl dX4_countOf_8 (by assumption) rfl ?_
      refine x_iload_n Z dX4_countOf_11 rfl rfl ?_
      refine x_iald Z dX4_countOf_12 (by assumption) (by omega) (by omega) (by omega) ?_
      refine x_icmp_ge Z 47 dX4_countOf_13 (by decide) ⟨by omega, by omega⟩ ⟨by omega, by omega⟩ (fun c13 => ?_) (fun c13 => ?_)
      ·
        refine x_iload_n Z dX4_countOf_47 rfl rfl ?_
        exact x_iret Z E (⟨by rw [← hif, forI_e (by omega)], rfl⟩) dX4_countOf_48 (Nat.le_of_ble_eq_true rfl) (Nat.le_of_ble_eq_true rfl)
      ·
        refine x_iload_n Z dX4_countOf_16 rfl rfl ?_
        refine x_aload_n Z dX4_countOf_17 rfl rfl ?_
        refine x_aload_n Z dX4_countOf_18 rfl rfl ?_
        refine x_getf (ci := 5) (j := 1) (C := RX4) (T := TX4) (N := 7) Z inX4g rfl (by decide) q1042 rfl dX4_countOf_19 (by assumption) rfl ?_
        refine x_iload_n Z dX4_countOf_22 rfl rfl ?_
        refine x_aaldR Z dX4_countOf_23 hr3 (by decide) (by omega) (by omega) (hf3 t (by omega) (by omega)) ?_
        refine x_iload Z dX4_countOf_24 rfl ?_
        refine x_iald Z dX4_countOf_26 (by assumption) (by omega) (by omega) (by omega) ?_
        refine x_iload_n Z dX4_countOf_27 rfl rfl ?_
        refine x_callV (ci := 5) (C := RX4) (T := TX4) (N := 7) Z okX4_isSo q1145 q1147 q17 rfl dX4_countOf_28 (c_X4_isSo h0 htr hS (by omega) (by omega) (by omega) (by omega)) hS.1 ⟨Nat.le_of_ble_eq_true rfl, Nat.le_of_ble_eq_true rfl, Nat.le_of_ble_eq_true rfl, Nat.le_of_ble_eq_true rfl⟩ rfl rfl (Nat.le_of_ble_eq_true rfl) (fun v9 w9 hR => ?_)
        obtain ⟨rfl, e9⟩ := hR
        refine x_ew e9 ?_
        simp only [Option.toList_some, Option.toList_none, List.cons_append, List.nil_append]
        refine x_ifb_eq Z 38 dX4_countOf_31 (by decide) (fun c31 => ?_) (fun c31 => ?_)
        ·
          refine x_ib false Z dX4_countOf_38 (by decide) ?_
          refine x_iadd Z dX4_countOf_39 ?_
          refine x_istore_n (L' := [(3, _), (4, _), (0, _), (1, _), (2, _)]) Z dX4_countOf_40 rfl (Nat.le_of_ble_eq_true rfl) rfl ?_
          refine x_iinc (L' := [(4, _), (3, _), (0, _), (1, _), (2, _)]) Z dX4_countOf_41 rfl (Nat.le_of_ble_eq_true rfl) rfl ?_
          refine x_goto Z 5 dX4_countOf_44 (by decide) ?_
          first | exact ih5 (i + 1) (v + 1) (by omega) ⟨by omega, by omega, by rw [← hif, forI_s (i := i) (by omega), cst_t (P := fun j => so (S.2.2.1 t j) q) c31]⟩ | exact ih5 (i + 1) (v + 0) (by omega) ⟨by omega, by omega, by rw [← hif, forI_s (i := i) (by omega), cst_f (P := fun j => so (S.2.2.1 t j) q) c31, Int.add_zero]⟩
        ·
          refine x_ib true Z dX4_countOf_34 (by decide) ?_
          refine x_goto Z 39 dX4_countOf_35 (by decide) ?_
          refine x_iadd Z dX4_countOf_39 ?_
          refine x_istore_n (L' := [(3, _), (4, _), (0, _), (1, _), (2, _)]) Z dX4_countOf_40 rfl (Nat.le_of_ble_eq_true rfl) rfl ?_
          refine x_iinc (L' := [(4, _), (3, _), (0, _), (1, _), (2, _)]) Z dX4_countOf_41 rfl (Nat.le_of_ble_eq_true rfl) rfl ?_
          refine x_goto Z 5 dX4_countOf_44 (by decide) ?_
          first | exact ih5 (i + 1) (v + 1) (by omega) ⟨by omega, by omega, by rw [← hif, forI_s (i := i) (by omega), cst_t (P := fun j => so (S.2.2.1 t j) q) c31]⟩ | exact ih5 (i + 1) (v + 0) (by omega) ⟨by omega, by omega, by rw [← hif, forI_s (i := i) (by omega), cst_f (P := fun j => so (S.2.2.1 t j) q) c31, Int.add_zero]⟩
  exact loop5 40 0 0 (by omega) ⟨by omega, by omega, rfl⟩
abbrev rmc_X4_count : Room := { frames := 4, cells := 0, slots := 0, locals := 90 }
set_option maxRecDepth 100000 in
theorem c_X4_count {l : Launch} {s0 : State} {G : gK} {w : wd} (h0 : gS0 s0) (htr : l.stackTraces = false) {R : rA} {S : rM} {t : Int} {q : Int} (hS : rS G w R S) (hit : inr t) (hiq : inr q) : gM l s0 G yX4_count [Cond.code yX4_count cX4_count 3 (some .int)] rmc_X4_count [rv R.1, iv t, iv q] w (fun v w' => ∃ (z : Int) (T : Int), v = some (iv z) ∧ rS G w' R (rT S T) ∧ fr (rP R S.1) w w' ∧ ((T = 1 ∧ ¬ (0 ≤ t ∧ t < 3)) ∨ (T = 2 ∧ (0 ≤ t ∧ t < 3) ∧ ¬ (0 ≤ q ∧ q < 14)) ∨ (T = 0 ∧ (0 ≤ t ∧ t < 3) ∧ (0 ≤ q ∧ q < 14) ∧ (z = forI (cst (fun j => so (S.2.2.1 t j) q)) 0 (S.2.1 t) 0)))) (noX) := by
  refine g_of h0 htr (by decide +kernel) (Nat.le_of_ble_eq_true rfl) ?_
  intro b Z0 E
  have Z : gAm b l s0 G cX4_count RX4 3 rmc_X4_count := Z0
  refine x_el (L' := [(0, rv R.1), (1, iv t), (2, iv q)]) rfl ?_
  obtain ⟨hr1, hr2, ⟨f3, hr3, hf3⟩, hr4, hr5, hr6⟩ := id hS
  have hf0 : fr (rP R S.1) w w := fr.rf
  have join25 : ∀ (c1 c2 : Bool), ((c1 = true ↔ ¬ (0 ≤ t ∧ t < 3)) ∧ (c2 = true ↔ ¬ (0 ≤ q ∧ q < 14))) → gX b s0 G (0) (0) 25 [(0, rv R.1), (1, iv t), (2, iv q)] [iv (b2 c2), iv (b2 c1), rv R.1] (w) := by
    intro c1 c2 hv
    obtain ⟨hc1, hc2⟩ := hv
    refine x_callV (ci := 5) (C := RX4) (T := TX4) (N := 7) Z okX4_isThrown q1077 q1079 q11 rfl dX4_count_25 (c_X4_isThrown h0 htr hS) hS.1 ⟨Nat.le_of_ble_eq_true rfl, Nat.le_of_ble_eq_true rfl, Nat.le_of_ble_eq_true rfl, Nat.le_of_ble_eq_true rfl⟩ rfl rfl (Nat.le_of_ble_eq_true rfl) (fun v9 w9 hR => ?_)
    obtain ⟨rfl, hS, hf9⟩ := hR
    have hf0 := hf0.tr hf9
    simp only [Option.toList_some, Option.toList_none, List.cons_append, List.nil_append]
    refine x_ifb_eq Z 35 dX4_count_28 (by decide) (fun c28 => ?_) (fun c28 => ?_)
    ·
      obtain ⟨ea, ec⟩ := bor_f c28
      have o1 := bq_n hc1 ea
      have o2 := bq_n hc2 ec
      subst ea
      subst ec
      obtain ⟨hr1, hr2, ⟨f3, hr3, hf3⟩, hr4, hr5, hr6⟩ := id hS
      obtain ⟨hrt, hn0, hn30, hC⟩ := hr5 t (by omega) (by omega)
      try dsimp only [rT] at hr1 hf3 hr4 hr5 hr6
      try dsimp only [rT] at hrt hn0 hn30 hC
      have en : (rT S (th2 false false)).2.1 t = S.2.1 t := rfl
      refine x_aload_n Z dX4_count_35 rfl rfl ?_
      refine x_iload_n Z dX4_count_36 rfl rfl ?_
      refine x_iload_n Z dX4_count_37 rfl rfl ?_
      refine x_callV (ci := 5) (C := RX4) (T := TX4) (N := 7) Z okX4_countOf q1277 q1279 q25 rfl dX4_count_38 (c_X4_countOf h0 htr hS (by omega) (by omega) (by omega) (by omega)) hS.1 ⟨Nat.le_of_ble_eq_true rfl, Nat.le_of_ble_eq_true rfl, Nat.le_of_ble_eq_true rfl, Nat.le_of_ble_eq_true rfl⟩ rfl rfl (Nat.le_of_ble_eq_true rfl) (fun v9 w9 hR => ?_)
      obtain ⟨rfl, e9⟩ := hR
      refine x_ew e9 ?_
      simp only [Option.toList_some, Option.toList_none, List.cons_append, List.nil_append]
      exact x_iret Z E (by first | exact ⟨_, _, rfl, hS, hf0, thr2 hbad hc1 hc2⟩ | exact ⟨_, _, rfl, hS, hf0, Or.inr (Or.inr ⟨rfl, o1, o2, rfl⟩)⟩) dX4_count_41 (Nat.le_of_ble_eq_true rfl) (Nat.le_of_ble_eq_true rfl)
    ·
      have hbad := c28
      refine x_iconst Z dX4_count_31 ?_
      refine x_goto Z 41 dX4_count_32 (by decide) ?_
      exact x_iret Z E (by first | exact ⟨_, _, rfl, hS, hf0, thr2 hbad hc1 hc2⟩ | exact ⟨_, _, rfl, hS, hf0, Or.inr (Or.inr ⟨rfl, o1, o2, rfl⟩)⟩) dX4_count_41 (Nat.le_of_ble_eq_true rfl) (Nat.le_of_ble_eq_true rfl)
  refine x_aload_n Z dX4_count_0 rfl rfl ?_
  refine x_iload_n Z dX4_count_1 rfl rfl ?_
  refine x_callS Z okX4_is q1071 q1072 dX4_count_2 (c_X4_is h0 htr (by assumption)) ⟨Nat.le_of_ble_eq_true rfl, Nat.le_of_ble_eq_true rfl, Nat.le_of_ble_eq_true rfl, Nat.le_of_ble_eq_true rfl⟩ rfl rfl (Nat.le_of_ble_eq_true rfl) (fun v9 w9 hR => ?_)
  obtain ⟨o9, rfl, e9, hq⟩ := hR
  refine x_ew e9 ?_
  simp only [Option.toList_some, Option.toList_none, List.cons_append, List.nil_append]
  refine x_ifb_ne Z 12 dX4_count_5 (by decide) (fun c5 => ?_) (fun c5 => ?_)
  ·
    have f5 := bq_t hq c5
    refine x_ib false Z dX4_count_12 (by decide) ?_
    refine x_iload_n Z dX4_count_13 rfl rfl ?_
    refine x_callS Z okX4_isQuestion q1142 q1143 dX4_count_14 (c_X4_isQuestion h0 htr (by assumption)) ⟨Nat.le_of_ble_eq_true rfl, Nat.le_of_ble_eq_true rfl, Nat.le_of_ble_eq_true rfl, Nat.le_of_ble_eq_true rfl⟩ rfl rfl (Nat.le_of_ble_eq_true rfl) (fun v9 w9 hR => ?_)
    obtain ⟨o9, rfl, e9, hq⟩ := hR
    refine x_ew e9 ?_
    simp only [Option.toList_some, Option.toList_none, List.cons_append, List.nil_append]
    refine x_ifb_ne Z 24 dX4_count_17 (by decide) (fun c17 => ?_) (fun c17 => ?_)
    ·
      have f17 := bq_t hq c17
      refine x_ib false Z dX4_count_24 (by decide) ?_
      exact join25 _ _ ⟨(by first | exact ⟨fun _ => by omega, fun _ => rfl⟩ | exact ⟨fun h => absurd h (by decide), fun h => (h (by omega)).elim⟩), (by first | exact ⟨fun _ => by omega, fun _ => rfl⟩ | exact ⟨fun h => absurd h (by decide), fun h => (h (by omega)).elim⟩)⟩
    ·
      have f17 := bq_f hq c17
      refine x_ib true Z dX4_count_20 (by decide) ?_
      refine x_goto Z 25 dX4_count_21 (by decide) ?_
      exact join25 _ _ ⟨(by first | exact ⟨fun _ => by omega, fun _ => rfl⟩ | exact ⟨fun h => absurd h (by decide), fun h => (h (by omega)).elim⟩), (by first | exact ⟨fun _ => by omega, fun _ => rfl⟩ | exact ⟨fun h => absurd h (by decide), fun h => (h (by omega)).elim⟩)⟩
  ·
    have f5 := bq_f hq c5
    refine x_ib true Z dX4_count_8 (by decide) ?_
    refine x_goto Z 13 dX4_count_9 (by decide) ?_
    refine x_iload_n Z dX4_count_13 rfl rfl ?_
    refine x_callS Z okX4_isQuestion q1142 q1143 dX4_count_14 (c_X4_isQuestion h0 htr (by assumption)) ⟨Nat.le_of_ble_eq_true rfl, Nat.le_of_ble_eq_true rfl, Nat.le_of_ble_eq_true rfl, Nat.le_of_ble_eq_true rfl⟩ rfl rfl (Nat.le_of_ble_eq_true rfl) (fun v9 w9 hR => ?_)
    obtain ⟨o9, rfl, e9, hq⟩ := hR
    refine x_ew e9 ?_
    simp only [Option.toList_some, Option.toList_none, List.cons_append, List.nil_append]
    refine x_ifb_ne Z 24 dX4_count_17 (by decide) (fun c17 => ?_) (fun c17 => ?_)
    ·
      have f17 := bq_t hq c17
      refine x_ib false Z dX4_count_24 (by decide) ?_
      exact join25 _ _ ⟨(by first | exact ⟨fun _ => by omega, fun _ => rfl⟩ | exact ⟨fun h => absurd h (by decide), fun h => (h (by omega)).elim⟩), (by first | exact ⟨fun _ => by omega, fun _ => rfl⟩ | exact ⟨fun h => absurd h (by decide), fun h => (h (by omega)).elim⟩)⟩
    ·
      have f17 := bq_f hq c17
      refine x_ib true Z dX4_count_20 (by decide) ?_
      refine x_goto Z 25 dX4_count_21 (by decide) ?_
      exact join25 _ _ ⟨(by first | exact ⟨fun _ => by omega, fun _ => rfl⟩ | exact ⟨fun h => absurd h (by decide), fun h => (h (by omega)).elim⟩), (by first | exact ⟨fun _ => by omega, fun _ => rfl⟩ | exact ⟨fun h => absurd h (by decide), fun h => (h (by omega)).elim⟩)⟩
abbrev rmc_X4_countKind : Room := { frames := 1, cells := 0, slots := 0, locals := 22 }
set_option maxRecDepth 100000 in
theorem c_X4_countKind {l : Launch} {s0 : State} {G : gK} {w : wd} (h0 : gS0 s0) (htr : l.stackTraces = false) {R : rA} {S : rM} {t : Int} {q : Int} (hS : rS G w R S) (hit : inr t) (hiq : inr q) : gM l s0 G yX4_countKind [Cond.code yX4_countKind cX4_countKind 5 (some .int)] rmc_X4_countKind [rv R.1, iv t, iv q] w (fun v w' => ∃ (z : Int) (T : Int), v = some (iv z) ∧ rS G w' R (rT S T) ∧ fr (rP R S.1) w w' ∧ ((T = 1 ∧ ¬ (0 ≤ t ∧ t < 3)) ∨ (T = 2 ∧ (0 ≤ t ∧ t < 3) ∧ ¬ (0 ≤ q ∧ q < 31)) ∨ (T = 0 ∧ (0 ≤ t ∧ t < 3) ∧ (0 ≤ q ∧ q < 31) ∧ (z = forI (cst (fun j => decide (kin (S.2.2.1 t j) = q))) 0 (S.2.1 t) 0)))) (noX) := by
  refine g_of h0 htr (by decide +kernel) (Nat.le_of_ble_eq_true rfl) ?_
  intro b Z0 E
  have Z : gAm b l s0 G cX4_countKind RX4 5 rmc_X4_countKind := Z0
  refine x_el (L' := [(0, rv R.1), (1, iv t), (2, iv q)]) rfl ?_
  obtain ⟨hr1, hr2, ⟨f3, hr3, hf3⟩, hr4, hr5, hr6⟩ := id hS
  have hf0 : fr (rP R S.1) w w := fr.rf
  have join25 : ∀ (c1 c2 : Bool), ((c1 = true ↔ ¬ (0 ≤ t ∧ t < 3)) ∧ (c2 = true ↔ ¬ (0 ≤ q ∧ q < 31))) → gX b s0 G (0) (0) 25 [(0, rv R.1), (1, iv t), (2, iv q)] [iv (b2 c2), iv (b2 c1), rv R.1] (w) := by
    intro c1 c2 hv
    obtain ⟨hc1, hc2⟩ := hv
    refine x_callV (ci := 5) (C := RX4) (T := TX4) (N := 7) Z okX4_isThrown q1077 q1079 q11 rfl dX4_countKind_25 (c_X4_isThrown h0 htr hS) hS.1 ⟨Nat.le_of_ble_eq_true rfl, Nat.le_of_ble_eq_true rfl, Nat.le_of_ble_eq_true rfl, Nat.le_of_ble_eq_true rfl⟩ rfl rfl (Nat.le_of_ble_eq_true rfl) (fun v9 w9 hR => ?_)
    obtain ⟨rfl, hS, hf9⟩ := hR
    have hf0 := hf0.tr hf9
    simp only [Option.toList_some, Option.toList_none, List.cons_append, List.nil_append]
    refine x_ifb_eq Z 33 dX4_countKind_28 (by decide) (fun c28 => ?_) (fun c28 => ?_)
    ·
      obtain ⟨ea, ec⟩ := bor_f c28
      have o1 := bq_n hc1 ea
      have o2 := bq_n hc2 ec
      subst ea
      subst ec
      obtain ⟨hr1, hr2, ⟨f3, hr3, hf3⟩, hr4, hr5, hr6⟩ := id hS
      obtain ⟨hrt, hn0, hn30, hC⟩ := hr5 t (by omega) (by omega)
      try dsimp only [rT] at hr1 hf3 hr4 hr5 hr6
      try dsimp only [rT] at hrt hn0 hn30 hC
      have en : (rT S (th2 false false)).2.1 t = S.2.1 t := rfl
      refine x_iconst Z dX4_countKind_33 ?_
      refine x_istore_n (L' := [(3, _), (0, _), (1, _), (2, _)]) Z dX4_countKind_34 rfl (Nat.le_of_ble_eq_true rfl) rfl ?_
      refine x_iconst Z dX4_countKind_35 ?_
      refine x_istore (L' := [(4, _), (3, _), (0, _), (1, _), (2, _)]) Z dX4_countKind_36 (Nat.le_of_ble_eq_true rfl) rfl ?_
      have loop38 : ∀ (fu : Nat) (i v : Int), (S.2.1 t) - i < (fu : Int) → (0 ≤ i ∧ i ≤ (S.2.1 t) ∧ forI (cst (fun j => decide (kin (S.2.2.1 t j) = q))) i (S.2.1 t) v = forI (cst (fun j => decide (kin (S.2.2.1 t j) = q))) 0 (S.2.1 t) 0) → gX b s0 G (0) (0) 38 [(4, iv i), (3, iv v), (0, rv R.1), (1, iv t), (2, iv q)] [] (w9) := by
        intro fu; induction fu with
        | zero => intro i v hm hv; exact absurd hm (by omega)
        | succ fu ih38 =>
          intro i v hm hv
          obtain ⟨hi0, hin, hif⟩ := hv
          have hCi := hC i
          have hki := kin_in (S.2.2.1 t i)
          refine x_iload Z dX4_countKind_38 rfl ?_
          refine x_aload_n Z dX4_countKind_40 rfl rfl ?_
          refine x_getf (ci := 5) (j := 2) (C := RX4) (T := TX4) (N := 7) Z inX4g rfl (by decide) q1043 rfl dX4_countKind_41 (by assumption) rfl ?_
          refine x_iload_n Z dX4_countKind_44 rfl rfl ?_
          refine x_iald Z dX4_countKind_45 (by assumption) (by omega) (by omega) (by omega) ?_
          refine x_icmp_ge Z 81 dX4_countKind_46 (by decide) ⟨by omega, by omega⟩ ⟨by omega, by omega⟩ (fun c46 => ?_) (fun c46 => ?_)
          ·
            refine x_iload_n Z dX4_countKind_81 rfl rfl ?_
            exact x_iret Z E (by first | exact ⟨_, _, rfl, hS, hf0, thr2 hbad hc1 hc2⟩ | exact ⟨_, _, rfl, hS, hf0, Or.inr (Or.inr ⟨rfl, o1, o2, by rw [← hif, forI_e (by omega)]⟩)⟩) dX4_countKind_82 (Nat.le_of_ble_eq_true rfl) (Nat.le_of_ble_eq_true rfl)
          ·
            refine x_iload_n Z dX4_countKind_49 rfl rfl ?_
            refine x_aload_n Z dX4_countKind_50 rfl rfl ?_
            refine x_getf (ci := 5) (j := 0) (C := RX4) (T := TX4) (N := 7) Z inX4g rfl (by decide) q1041 rfl dX4_countKind_51 (by assumption) rfl ?_
            refine x_aload_n Z dX4_countKind_54 rfl rfl ?_
            refine x_getf (ci := 5) (j := 1) (C := RX4) (T := TX4) (N := 7) Z inX4g rfl (by decide) q1042 rfl dX4_countKind_55 (by assumption) rfl ?_
            refine x_iload_n Z dX4_countKind_58 rfl rfl ?_
            refine x_aaldR Z dX4_countKind_59 hr3 (by decide) (by omega) (by omega) (hf3 t (by omega) (by omega)) ?_
            refine x_iload Z dX4_countKind_60 rfl ?_
            refine x_iald Z dX4_countKind_62 (by assumption) (by omega) (by omega) (by omega) ?_
            refine x_iald Z dX4_countKind_63 (by assumption) (by omega) (by omega) (by omega) ?_
            refine x_iload_n Z dX4_countKind_64 rfl rfl ?_
            refine x_icmp_ne Z 72 dX4_countKind_65 (by decide) ⟨by omega, by omega⟩ ⟨by omega, by omega⟩ (fun c65 => ?_) (fun c65 => ?_)
            ·
              refine x_ib false Z dX4_countKind_72 (by decide) ?_
              refine x_iadd Z dX4_countKind_73 ?_
              refine x_istore_n (L' := [(3, _), (4, _), (0, _), (1, _), (2, _)]) Z dX4_countKind_74 rfl (Nat.le_of_ble_eq_true rfl) rfl ?_
              refine x_iinc (L' := [(4, _), (3, _), (0, _), (1, _), (2, _)]) Z dX4_countKind_75 rfl (Nat.le_of_ble_eq_true rfl) rfl ?_
              refine x_goto Z 38 dX4_countKind_78 (by decide) ?_
              first | exact ih38 (i + 1) (v + 1) (by omega) ⟨by omega, by omega, by rw [← hif, forI_s (i := i) (by omega), cst_t (P := fun j => decide (kin (S.2.2.1 t j) = q)) (decide_eq_true c65)]⟩ | exact ih38 (i + 1) (v + 0) (by omega) ⟨by omega, by omega, by rw [← hif, forI_s (i := i) (by omega), cst_f (P := fun j => decide (kin (S.2.2.1 t j) = q)) (decide_eq_false c65), Int.add_zero]⟩
            ·
              refine x_ib true Z dX4_countKind_68 (by decide) ?_
              refine x_goto Z 73 dX4_countKind_69 (by decide) ?_
              refine x_iadd Z dX4_countKind_73 ?_
              refine x_istore_n (L' := [(3, _), (4, _), (0, _), (1, _), (2, _)]) Z dX4_countKind_74 rfl (Nat.le_of_ble_eq_true rfl) rfl ?_
              refine x_iinc (L' := [(4, _), (3, _), (0, _), (1, _), (2, _)]) Z dX4_countKind_75 rfl (Nat.le_of_ble_eq_true rfl) rfl ?_
              refine x_goto Z 38 dX4_countKind_78 (by decide) ?_
              first | exact ih38 (i + 1) (v + 1) (by omega) ⟨by omega, by omega, by rw [← hif, forI_s (i := i) (by omega), cst_t (P := fun j => decide (kin (S.2.2.1 t j) = q)) (decide_eq_true c65)]⟩ | exact ih38 (i + 1) (v + 0) (by omega) ⟨by omega, by omega, by rw [← hif, forI_s (i := i) (by omega), cst_f (P := fun j => decide (kin (S.2.2.1 t j) = q)) (decide_eq_false c65), Int.add_zero]⟩
      exact loop38 40 0 0 (by omega) ⟨by omega, by omega, rfl⟩
    ·
      have hbad := c28
      refine x_iconst Z dX4_countKind_31 ?_
      exact x_iret Z E (by first | exact ⟨_, _, rfl, hS, hf0, thr2 hbad hc1 hc2⟩ | exact ⟨_, _, rfl, hS, hf0, Or.inr (Or.inr ⟨rfl, o1, o2, by rw [← hif, forI_e (by omega)]⟩)⟩) dX4_countKind_32 (Nat.le_of_ble_eq_true rfl) (Nat.le_of_ble_eq_true rfl)
  refine x_aload_n Z dX4_countKind_0 rfl rfl ?_
  refine x_iload_n Z dX4_countKind_1 rfl rfl ?_
  refine x_callS Z okX4_is q1071 q1072 dX4_countKind_2 (c_X4_is h0 htr (by assumption)) ⟨Nat.le_of_ble_eq_true rfl, Nat.le_of_ble_eq_true rfl, Nat.le_of_ble_eq_true rfl, Nat.le_of_ble_eq_true rfl⟩ rfl rfl (Nat.le_of_ble_eq_true rfl) (fun v9 w9 hR => ?_)
  obtain ⟨o9, rfl, e9, hq⟩ := hR
  refine x_ew e9 ?_
  simp only [Option.toList_some, Option.toList_none, List.cons_append, List.nil_append]
  refine x_ifb_ne Z 12 dX4_countKind_5 (by decide) (fun c5 => ?_) (fun c5 => ?_)
  ·
    have f5 := bq_t hq c5
    refine x_ib false Z dX4_countKind_12 (by decide) ?_
    refine x_iload_n Z dX4_countKind_13 rfl rfl ?_
    refine x_callS Z okX4_isKind q1164 q1165 dX4_countKind_14 (c_X4_isKind h0 htr (by assumption)) ⟨Nat.le_of_ble_eq_true rfl, Nat.le_of_ble_eq_true rfl, Nat.le_of_ble_eq_true rfl, Nat.le_of_ble_eq_true rfl⟩ rfl rfl (Nat.le_of_ble_eq_true rfl) (fun v9 w9 hR => ?_)
    obtain ⟨o9, rfl, e9, hq⟩ := hR
    refine x_ew e9 ?_
    simp only [Option.toList_some, Option.toList_none, List.cons_append, List.nil_append]
    refine x_ifb_ne Z 24 dX4_countKind_17 (by decide) (fun c17 => ?_) (fun c17 => ?_)
    ·
      have f17 := bq_t hq c17
      refine x_ib false Z dX4_countKind_24 (by decide) ?_
      exact join25 _ _ ⟨(by first | exact ⟨fun _ => by omega, fun _ => rfl⟩ | exact ⟨fun h => absurd h (by decide), fun h => (h (by omega)).elim⟩), (by first | exact ⟨fun _ => by omega, fun _ => rfl⟩ | exact ⟨fun h => absurd h (by decide), fun h => (h (by omega)).elim⟩)⟩
    ·
      have f17 := bq_f hq c17
      refine x_ib true Z dX4_countKind_20 (by decide) ?_
      refine x_goto Z 25 dX4_countKind_21 (by decide) ?_
      exact join25 _ _ ⟨(by first | exact ⟨fun _ => by omega, fun _ => rfl⟩ | exact ⟨fun h => absurd h (by decide), fun h => (h (by omega)).elim⟩), (by first | exact ⟨fun _ => by omega, fun _ => rfl⟩ | exact ⟨fun h => absurd h (by decide), fun h => (h (by omega)).elim⟩)⟩
  ·
    have f5 := bq_f hq c5
    refine x_ib true Z dX4_countKind_8 (by decide) ?_
    refine x_goto Z 13 dX4_countKind_9 (by decide) ?_
    refine x_iload_n Z dX4_countKind_13 rfl rfl ?_
    refine x_callS Z okX4_isKind q1164 q1165 dX4_countKind_14 (c_X4_isKind h0 htr (by assumption)) ⟨Nat.le_of_ble_eq_true rfl, Nat.le_of_ble_eq_true rfl, Nat.le_of_ble_eq_true rfl, Nat.le_of_ble_eq_true rfl⟩ rfl rfl (Nat.le_of_ble_eq_true rfl) (fun v9 w9 hR => ?_)
    obtain ⟨o9, rfl, e9, hq⟩ := hR
    refine x_ew e9 ?_
    simp only [Option.toList_some, Option.toList_none, List.cons_append, List.nil_append]
    refine x_ifb_ne Z 24 dX4_countKind_17 (by decide) (fun c17 => ?_) (fun c17 => ?_)
    ·
      have f17 := bq_t hq c17
      refine x_ib false Z dX4_countKind_24 (by decide) ?_
      exact join25 _ _ ⟨(by first | exact ⟨fun _ => by omega, fun _ => rfl⟩ | exact ⟨fun h => absurd h (by decide), fun h => (h (by omega)).elim⟩), (by first | exact ⟨fun _ => by omega, fun _ => rfl⟩ | exact ⟨fun h => absurd h (by decide), fun h => (h (by omega)).elim⟩)⟩
    ·
      have f17 := bq_f hq c17
      refine x_ib true Z dX4_countKind_20 (by decide) ?_
      refine x_goto Z 25 dX4_countKind_21 (by decide) ?_
      exact join25 _ _ ⟨(by first | exact ⟨fun _ => by omega, fun _ => rfl⟩ | exact ⟨fun h => absurd h (by decide), fun h => (h (by omega)).elim⟩), (by first | exact ⟨fun _ => by omega, fun _ => rfl⟩ | exact ⟨fun h => absurd h (by decide), fun h => (h (by omega)).elim⟩)⟩
abbrev rmc_X4_isAll : Room := { frames := 4, cells := 0, slots := 0, locals := 91 }
set_option maxRecDepth 100000 in
theorem c_X4_isAll {l : Launch} {s0 : State} {G : gK} {w : wd} (h0 : gS0 s0) (htr : l.stackTraces = false) {R : rA} {S : rM} {t : Int} {q : Int} (hS : rS G w R S) (hit : inr t) (hiq : inr q) : gM l s0 G yX4_isAll [Cond.code yX4_isAll cX4_isAll 3 (some .boolean)] rmc_X4_isAll [rv R.1, iv t, iv q] w (fun v w' => ∃ (z : Bool) (T : Int), v = some (iv (b2 z)) ∧ rS G w' R (rT S T) ∧ fr (rP R S.1) w w' ∧ ((T = 1 ∧ ¬ (0 ≤ t ∧ t < 3)) ∨ (T = 2 ∧ (0 ≤ t ∧ t < 3) ∧ ¬ (0 ≤ q ∧ q < 14)) ∨ (T = 0 ∧ (0 ≤ t ∧ t < 3) ∧ (0 ≤ q ∧ q < 14) ∧ (z = decide (findI (fun j => !so (S.2.2.1 t j) q) 0 (S.2.1 t) = S.2.1 t))))) (noX) := by
  refine g_of h0 htr (by decide +kernel) (Nat.le_of_ble_eq_true rfl) ?_
  intro b Z0 E
  have Z : gAm b l s0 G cX4_isAll RX4 3 rmc_X4_isAll := Z0
  refine x_el (L' := [(0, rv R.1), (1, iv t), (2, iv q)]) rfl ?_
  obtain ⟨hr1, hr2, ⟨f3, hr3, hf3⟩, hr4, hr5, hr6⟩ := id hS
  have hf0 : fr (rP R S.1) w w := fr.rf
  have join25 : ∀ (c1 c2 : Bool), ((c1 = true ↔ ¬ (0 ≤ t ∧ t < 3)) ∧ (c2 = true ↔ ¬ (0 ≤ q ∧ q < 14))) → gX b s0 G (0) (0) 25 [(0, rv R.1), (1, iv t), (2, iv q)] [iv (b2 c2), iv (b2 c1), rv R.1] (w) := by
    intro c1 c2 hv
    obtain ⟨hc1, hc2⟩ := hv
    refine x_callV (ci := 5) (C := RX4) (T := TX4) (N := 7) Z okX4_isThrown q1077 q1079 q11 rfl dX4_isAll_25 (c_X4_isThrown h0 htr hS) hS.1 ⟨Nat.le_of_ble_eq_true rfl, Nat.le_of_ble_eq_true rfl, Nat.le_of_ble_eq_true rfl, Nat.le_of_ble_eq_true rfl⟩ rfl rfl (Nat.le_of_ble_eq_true rfl) (fun v9 w9 hR => ?_)
    obtain ⟨rfl, hS, hf9⟩ := hR
    have hf0 := hf0.tr hf9
    simp only [Option.toList_some, Option.toList_none, List.cons_append, List.nil_append]
    refine x_ifb_ne Z 51 dX4_isAll_28 (by decide) (fun c28 => ?_) (fun c28 => ?_)
    ·
      have hbad := c28
      refine x_ib false Z dX4_isAll_51 (by decide) ?_
      exact x_zret Z E (by first | exact ⟨_, _, rfl, hS, hf0, thr2 hbad hc1 hc2⟩ | exact ⟨_, _, rfl, hS, hf0, Or.inr (Or.inr ⟨rfl, o1, o2, (decide_eq_true ((al_iff (by omega)).mpr f44)).symm⟩)⟩ | exact ⟨_, _, rfl, hS, hf0, Or.inr (Or.inr ⟨rfl, o1, o2, (decide_eq_false (fun h => f44 ((al_iff (by omega)).mp h))).symm⟩)⟩) dX4_isAll_52 (Nat.le_of_ble_eq_true rfl) (Nat.le_of_ble_eq_true rfl)
    ·
      obtain ⟨ea, ec⟩ := bor_f c28
      have o1 := bq_n hc1 ea
      have o2 := bq_n hc2 ec
      subst ea
      subst ec
      obtain ⟨hr1, hr2, ⟨f3, hr3, hf3⟩, hr4, hr5, hr6⟩ := id hS
      obtain ⟨hrt, hn0, hn30, hC⟩ := hr5 t (by omega) (by omega)
      try dsimp only [rT] at hr1 hf3 hr4 hr5 hr6
      try dsimp only [rT] at hrt hn0 hn30 hC
      have en : (rT S (th2 false false)).2.1 t = S.2.1 t := rfl
      refine x_aload_n Z dX4_isAll_31 rfl rfl ?_
      refine x_iload_n Z dX4_isAll_32 rfl rfl ?_
      refine x_iconst Z dX4_isAll_33 ?_
      refine x_aload_n Z dX4_isAll_34 rfl rfl ?_
      refine x_getf (ci := 5) (j := 2) (C := RX4) (T := TX4) (N := 7) Z inX4g rfl (by decide) q1043 rfl dX4_isAll_35 (by assumption) rfl ?_
      refine x_iload_n Z dX4_isAll_38 rfl rfl ?_
      refine x_iald Z dX4_isAll_39 (by assumption) (by omega) (by omega) (by omega) ?_
      refine x_iload_n Z dX4_isAll_40 rfl rfl ?_
      refine x_callV (ci := 5) (C := RX4) (T := TX4) (N := 7) Z okX4_areAll q1183 q1185 q22 rfl dX4_isAll_41 (c_X4_areAll h0 htr hS (by omega) (by omega) (by omega) (by omega) (by omega) (by omega) (by omega)) hS.1 ⟨Nat.le_of_ble_eq_true rfl, Nat.le_of_ble_eq_true rfl, Nat.le_of_ble_eq_true rfl, Nat.le_of_ble_eq_true rfl⟩ rfl rfl (Nat.le_of_ble_eq_true rfl) (fun v9 w9 hR => ?_)
      obtain ⟨o, rfl, e9, hq⟩ := hR
      refine x_ew e9 ?_
      simp only [Option.toList_some, Option.toList_none, List.cons_append, List.nil_append]
      refine x_ifb_eq Z 51 dX4_isAll_44 (by decide) (fun c44 => ?_) (fun c44 => ?_)
      ·
        have f44 := bq_f hq c44
        refine x_ib false Z dX4_isAll_51 (by decide) ?_
        exact x_zret Z E (by first | exact ⟨_, _, rfl, hS, hf0, thr2 hbad hc1 hc2⟩ | exact ⟨_, _, rfl, hS, hf0, Or.inr (Or.inr ⟨rfl, o1, o2, (decide_eq_true ((al_iff (by omega)).mpr f44)).symm⟩)⟩ | exact ⟨_, _, rfl, hS, hf0, Or.inr (Or.inr ⟨rfl, o1, o2, (decide_eq_false (fun h => f44 ((al_iff (by omega)).mp h))).symm⟩)⟩) dX4_isAll_52 (Nat.le_of_ble_eq_true rfl) (Nat.le_of_ble_eq_true rfl)
      ·
        have f44 := bq_t hq c44
        refine x_ib true Z dX4_isAll_47 (by decide) ?_
        refine x_goto Z 52 dX4_isAll_48 (by decide) ?_
        exact x_zret Z E (by first | exact ⟨_, _, rfl, hS, hf0, thr2 hbad hc1 hc2⟩ | exact ⟨_, _, rfl, hS, hf0, Or.inr (Or.inr ⟨rfl, o1, o2, (decide_eq_true ((al_iff (by omega)).mpr f44)).symm⟩)⟩ | exact ⟨_, _, rfl, hS, hf0, Or.inr (Or.inr ⟨rfl, o1, o2, (decide_eq_false (fun h => f44 ((al_iff (by omega)).mp h))).symm⟩)⟩) dX4_isAll_52 (Nat.le_of_ble_eq_true rfl) (Nat.le_of_ble_eq_true rfl)
  refine x_aload_n Z dX4_isAll_0 rfl rfl ?_
  refine x_iload_n Z dX4_isAll_1 rfl rfl ?_
  refine x_callS Z okX4_is q1071 q1072 dX4_isAll_2 (c_X4_is h0 htr (by assumption)) ⟨Nat.le_of_ble_eq_true rfl, Nat.le_of_ble_eq_true rfl, Nat.le_of_ble_eq_true rfl, Nat.le_of_ble_eq_true rfl⟩ rfl rfl (Nat.le_of_ble_eq_true rfl) (fun v9 w9 hR => ?_)
  obtain ⟨o9, rfl, e9, hq⟩ := hR
  refine x_ew e9 ?_
  simp only [Option.toList_some, Option.toList_none, List.cons_append, List.nil_append]
  refine x_ifb_ne Z 12 dX4_isAll_5 (by decide) (fun c5 => ?_) (fun c5 => ?_)
  ·
    have f5 := bq_t hq c5
    refine x_ib false Z dX4_isAll_12 (by decide) ?_
    refine x_iload_n Z dX4_isAll_13 rfl rfl ?_
    refine x_callS Z okX4_isQuestion q1142 q1143 dX4_isAll_14 (c_X4_isQuestion h0 htr (by assumption)) ⟨Nat.le_of_ble_eq_true rfl, Nat.le_of_ble_eq_true rfl, Nat.le_of_ble_eq_true rfl, Nat.le_of_ble_eq_true rfl⟩ rfl rfl (Nat.le_of_ble_eq_true rfl) (fun v9 w9 hR => ?_)
    obtain ⟨o9, rfl, e9, hq⟩ := hR
    refine x_ew e9 ?_
    simp only [Option.toList_some, Option.toList_none, List.cons_append, List.nil_append]
    refine x_ifb_ne Z 24 dX4_isAll_17 (by decide) (fun c17 => ?_) (fun c17 => ?_)
    ·
      have f17 := bq_t hq c17
      refine x_ib false Z dX4_isAll_24 (by decide) ?_
      exact join25 _ _ ⟨(by first | exact ⟨fun _ => by omega, fun _ => rfl⟩ | exact ⟨fun h => absurd h (by decide), fun h => (h (by omega)).elim⟩), (by first | exact ⟨fun _ => by omega, fun _ => rfl⟩ | exact ⟨fun h => absurd h (by decide), fun h => (h (by omega)).elim⟩)⟩
    ·
      have f17 := bq_f hq c17
      refine x_ib true Z dX4_isAll_20 (by decide) ?_
      refine x_goto Z 25 dX4_isAll_21 (by decide) ?_
      exact join25 _ _ ⟨(by first | exact ⟨fun _ => by omega, fun _ => rfl⟩ | exact ⟨fun h => absurd h (by decide), fun h => (h (by omega)).elim⟩), (by first | exact ⟨fun _ => by omega, fun _ => rfl⟩ | exact ⟨fun h => absurd h (by decide), fun h => (h (by omega)).elim⟩)⟩
  ·
    have f5 := bq_f hq c5
    refine x_ib true Z dX4_isAll_8 (by decide) ?_
    refine x_goto Z 13 dX4_isAll_9 (by decide) ?_
    refine x_iload_n Z dX4_isAll_13 rfl rfl ?_
    refine x_callS Z okX4_isQuestion q1142 q1143 dX4_isAll_14 (c_X4_isQuestion h0 htr (by assumption)) ⟨Nat.le_of_ble_eq_true rfl, Nat.le_of_ble_eq_true rfl, Nat.le_of_ble_eq_true rfl, Nat.le_of_ble_eq_true rfl⟩ rfl rfl (Nat.le_of_ble_eq_true rfl) (fun v9 w9 hR => ?_)
    obtain ⟨o9, rfl, e9, hq⟩ := hR
    refine x_ew e9 ?_
    simp only [Option.toList_some, Option.toList_none, List.cons_append, List.nil_append]
    refine x_ifb_ne Z 24 dX4_isAll_17 (by decide) (fun c17 => ?_) (fun c17 => ?_)
    ·
      have f17 := bq_t hq c17
      refine x_ib false Z dX4_isAll_24 (by decide) ?_
      exact join25 _ _ ⟨(by first | exact ⟨fun _ => by omega, fun _ => rfl⟩ | exact ⟨fun h => absurd h (by decide), fun h => (h (by omega)).elim⟩), (by first | exact ⟨fun _ => by omega, fun _ => rfl⟩ | exact ⟨fun h => absurd h (by decide), fun h => (h (by omega)).elim⟩)⟩
    ·
      have f17 := bq_f hq c17
      refine x_ib true Z dX4_isAll_20 (by decide) ?_
      refine x_goto Z 25 dX4_isAll_21 (by decide) ?_
      exact join25 _ _ ⟨(by first | exact ⟨fun _ => by omega, fun _ => rfl⟩ | exact ⟨fun h => absurd h (by decide), fun h => (h (by omega)).elim⟩), (by first | exact ⟨fun _ => by omega, fun _ => rfl⟩ | exact ⟨fun h => absurd h (by decide), fun h => (h (by omega)).elim⟩)⟩
abbrev rmc_X4_first : Room := { frames := 3, cells := 0, slots := 0, locals := 66 }
set_option maxRecDepth 100000 in
theorem c_X4_first {l : Launch} {s0 : State} {G : gK} {w : wd} (h0 : gS0 s0) (htr : l.stackTraces = false) {R : rA} {S : rM} {t : Int} {q : Int} {o : Bool} (hS : rS G w R S) (hit : inr t) (hiq : inr q) : gM l s0 G yX4_first [Cond.code yX4_first cX4_first 6 (some .int)] rmc_X4_first [rv R.1, iv t, iv q, iv (b2 o)] w (fun v w' => ∃ (z : Int) (T : Int), v = some (iv z) ∧ rS G w' R (rT S T) ∧ fr (rP R S.1) w w' ∧ ((T = 1 ∧ ¬ (0 ≤ t ∧ t < 3)) ∨ (T = 2 ∧ (0 ≤ t ∧ t < 3) ∧ ¬ (0 ≤ q ∧ q < 14)) ∨ (T = 0 ∧ (0 ≤ t ∧ t < 3) ∧ (0 ≤ q ∧ q < 14) ∧ (z = forI (fst9 (fun j => so (S.2.2.1 t j) q) o) 0 (S.2.1 t) (-1))))) (noX) := by
  refine g_of h0 htr (by decide +kernel) (Nat.le_of_ble_eq_true rfl) ?_
  intro b Z0 E
  have Z : gAm b l s0 G cX4_first RX4 6 rmc_X4_first := Z0
  refine x_el (L' := [(0, rv R.1), (1, iv t), (2, iv q), (3, iv (b2 o))]) rfl ?_
  obtain ⟨hr1, hr2, ⟨f3, hr3, hf3⟩, hr4, hr5, hr6⟩ := id hS
  have hf0 : fr (rP R S.1) w w := fr.rf
  have join25 : ∀ (c1 c2 : Bool), ((c1 = true ↔ ¬ (0 ≤ t ∧ t < 3)) ∧ (c2 = true ↔ ¬ (0 ≤ q ∧ q < 14))) → gX b s0 G (0) (0) 25 [(0, rv R.1), (1, iv t), (2, iv q), (3, iv (b2 o))] [iv (b2 c2), iv (b2 c1), rv R.1] (w) := by
    intro c1 c2 hv
    obtain ⟨hc1, hc2⟩ := hv
    refine x_callV (ci := 5) (C := RX4) (T := TX4) (N := 7) Z okX4_isThrown q1077 q1079 q11 rfl dX4_first_25 (c_X4_isThrown h0 htr hS) hS.1 ⟨Nat.le_of_ble_eq_true rfl, Nat.le_of_ble_eq_true rfl, Nat.le_of_ble_eq_true rfl, Nat.le_of_ble_eq_true rfl⟩ rfl rfl (Nat.le_of_ble_eq_true rfl) (fun v9 w9 hR => ?_)
    obtain ⟨rfl, hS, hf9⟩ := hR
    have hf0 := hf0.tr hf9
    simp only [Option.toList_some, Option.toList_none, List.cons_append, List.nil_append]
    refine x_ifb_eq Z 33 dX4_first_28 (by decide) (fun c28 => ?_) (fun c28 => ?_)
    ·
      obtain ⟨ea, ec⟩ := bor_f c28
      have o1 := bq_n hc1 ea
      have o2 := bq_n hc2 ec
      subst ea
      subst ec
      obtain ⟨hr1, hr2, ⟨f3, hr3, hf3⟩, hr4, hr5, hr6⟩ := id hS
      obtain ⟨hrt, hn0, hn30, hC⟩ := hr5 t (by omega) (by omega)
      try dsimp only [rT] at hr1 hf3 hr4 hr5 hr6
      try dsimp only [rT] at hrt hn0 hn30 hC
      have en : (rT S (th2 false false)).2.1 t = S.2.1 t := rfl
      refine x_iconst Z dX4_first_33 ?_
      refine x_istore (L' := [(4, _), (0, _), (1, _), (2, _), (3, _)]) Z dX4_first_34 (Nat.le_of_ble_eq_true rfl) rfl ?_
      refine x_iconst Z dX4_first_36 ?_
      refine x_istore (L' := [(5, _), (4, _), (0, _), (1, _), (2, _), (3, _)]) Z dX4_first_37 (Nat.le_of_ble_eq_true rfl) rfl ?_
      have loop39 : ∀ (fu : Nat) (i v : Int), (S.2.1 t) - i < (fu : Int) → (0 ≤ i ∧ i ≤ (S.2.1 t) ∧ -1 ≤ v ∧ v ≤ i ∧ forI (fst9 (fun j => so (S.2.2.1 t j) q) o) i (S.2.1 t) v = forI (fst9 (fun j => so (S.2.2.1 t j) q) o) 0 (S.2.1 t) (-1)) → gX b s0 G (0) (0) 39 [(5, iv i), (4, iv v), (0, rv R.1), (1, iv t), (2, iv q), (3, iv (b2 o))] [] (w9) := by
        intro fu; induction fu with
        | zero => intro i v hm hv; exact absurd hm (by omega)
        | succ fu ih39 =>
          intro i v hm hv
          obtain ⟨hi0, hin, hv0, hvi, hif⟩ := hv
          have hCi := hC i
          refine x_iload Z dX4_first_39 rfl ?_
          refine x_aload_n Z dX4_first_41 rfl rfl ?_
          refine x_getf (ci := 5) (j := 2) (C := RX4) (T := TX4) (N := 7) Z inX4g rfl (by decide) q1043 rfl dX4_first_42 (by assumption) rfl ?_
          refine x_iload_n Z dX4_first_45 rfl rfl ?_
          refine x_iald Z dX4_first_46 (by assumption) (by omega) (by omega) (by omega) ?_
          refine x_icmp_ge Z 86 dX4_first_47 (by decide) ⟨by omega, by omega⟩ ⟨by omega, by omega⟩ (fun c47 => ?_) (fun c47 => ?_)
          ·
            refine x_iload Z dX4_first_86 rfl ?_
            exact x_iret Z E (by first | exact ⟨_, _, rfl, hS, hf0, thr2 hbad hc1 hc2⟩ | exact ⟨_, _, rfl, hS, hf0, Or.inr (Or.inr ⟨rfl, o1, o2, by rw [← hif, forI_e (by omega)]⟩)⟩) dX4_first_88 (Nat.le_of_ble_eq_true rfl) (Nat.le_of_ble_eq_true rfl)
          ·
            refine x_aload_n Z dX4_first_50 rfl rfl ?_
            refine x_aload_n Z dX4_first_51 rfl rfl ?_
            refine x_getf (ci := 5) (j := 1) (C := RX4) (T := TX4) (N := 7) Z inX4g rfl (by decide) q1042 rfl dX4_first_52 (by assumption) rfl ?_
            refine x_iload_n Z dX4_first_55 rfl rfl ?_
            refine x_aaldR Z dX4_first_56 hr3 (by decide) (by omega) (by omega) (hf3 t (by omega) (by omega)) ?_
            refine x_iload Z dX4_first_57 rfl ?_
            refine x_iald Z dX4_first_59 (by assumption) (by omega) (by omega) (by omega) ?_
            refine x_iload_n Z dX4_first_60 rfl rfl ?_
            refine x_callV (ci := 5) (C := RX4) (T := TX4) (N := 7) Z okX4_isSo q1145 q1147 q17 rfl dX4_first_61 (c_X4_isSo h0 htr hS (by omega) (by omega) (by omega) (by omega)) hS.1 ⟨Nat.le_of_ble_eq_true rfl, Nat.le_of_ble_eq_true rfl, Nat.le_of_ble_eq_true rfl, Nat.le_of_ble_eq_true rfl⟩ rfl rfl (Nat.le_of_ble_eq_true rfl) (fun v9 w9 hR => ?_)
            obtain ⟨rfl, e9⟩ := hR
            refine x_ew e9 ?_
            simp only [Option.toList_some, Option.toList_none, List.cons_append, List.nil_append]
            refine x_ifb_eq Z 80 dX4_first_64 (by decide) (fun c64 => ?_) (fun c64 => ?_)
            ·
              refine x_iinc (L' := [(5, _), (4, _), (0, _), (1, _), (2, _), (3, _)]) Z dX4_first_80 rfl (Nat.le_of_ble_eq_true rfl) rfl ?_
              refine x_goto Z 39 dX4_first_83 (by decide) ?_
              first | exact ih39 (i + 1) i (by omega) ⟨by omega, by omega, by omega, by omega, by rw [← hif, forI_s (i := i) (by omega), fst9_t (P := fun j => so (S.2.2.1 t j) q) c64 (by first | exact Or.inl c68 | exact Or.inr (by omega))]⟩ | exact ih39 (i + 1) v (by omega) ⟨by omega, by omega, by omega, by omega, by rw [← hif, forI_s (i := i) (by omega), fst9_f (P := fun j => so (S.2.2.1 t j) q) (by first | exact Or.inl c64 | exact Or.inr ⟨c68, by omega⟩)]⟩
            ·
              refine x_iload_n Z dX4_first_67 rfl rfl ?_
              refine x_ifb_ne Z 76 dX4_first_68 (by decide) (fun c68 => ?_) (fun c68 => ?_)
              ·
                refine x_iload Z dX4_first_76 rfl ?_
                refine x_istore (L' := [(4, _), (5, _), (0, _), (1, _), (2, _), (3, _)]) Z dX4_first_78 (Nat.le_of_ble_eq_true rfl) rfl ?_
                refine x_iinc (L' := [(5, _), (4, _), (0, _), (1, _), (2, _), (3, _)]) Z dX4_first_80 rfl (Nat.le_of_ble_eq_true rfl) rfl ?_
                refine x_goto Z 39 dX4_first_83 (by decide) ?_
                first | exact ih39 (i + 1) i (by omega) ⟨by omega, by omega, by omega, by omega, by rw [← hif, forI_s (i := i) (by omega), fst9_t (P := fun j => so (S.2.2.1 t j) q) c64 (by first | exact Or.inl c68 | exact Or.inr (by omega))]⟩ | exact ih39 (i + 1) v (by omega) ⟨by omega, by omega, by omega, by omega, by rw [← hif, forI_s (i := i) (by omega), fst9_f (P := fun j => so (S.2.2.1 t j) q) (by first | exact Or.inl c64 | exact Or.inr ⟨c68, by omega⟩)]⟩
              ·
                refine x_iload Z dX4_first_71 rfl ?_
                refine x_if_ge Z 80 dX4_first_73 (by decide) ⟨by omega, by omega⟩ (fun c73 => ?_) (fun c73 => ?_)
                ·
                  refine x_iinc (L' := [(5, _), (4, _), (0, _), (1, _), (2, _), (3, _)]) Z dX4_first_80 rfl (Nat.le_of_ble_eq_true rfl) rfl ?_
                  refine x_goto Z 39 dX4_first_83 (by decide) ?_
                  first | exact ih39 (i + 1) i (by omega) ⟨by omega, by omega, by omega, by omega, by rw [← hif, forI_s (i := i) (by omega), fst9_t (P := fun j => so (S.2.2.1 t j) q) c64 (by first | exact Or.inl c68 | exact Or.inr (by omega))]⟩ | exact ih39 (i + 1) v (by omega) ⟨by omega, by omega, by omega, by omega, by rw [← hif, forI_s (i := i) (by omega), fst9_f (P := fun j => so (S.2.2.1 t j) q) (by first | exact Or.inl c64 | exact Or.inr ⟨c68, by omega⟩)]⟩
                ·
                  refine x_iload Z dX4_first_76 rfl ?_
                  refine x_istore (L' := [(4, _), (5, _), (0, _), (1, _), (2, _), (3, _)]) Z dX4_first_78 (Nat.le_of_ble_eq_true rfl) rfl ?_
                  refine x_iinc (L' := [(5, _), (4, _), (0, _), (1, _), (2, _), (3, _)]) Z dX4_first_80 rfl (Nat.le_of_ble_eq_true rfl) rfl ?_
                  refine x_goto Z 39 dX4_first_83 (by decide) ?_
                  first | exact ih39 (i + 1) i (by omega) ⟨by omega, by omega, by omega, by omega, by rw [← hif, forI_s (i := i) (by omega), fst9_t (P := fun j => so (S.2.2.1 t j) q) c64 (by first | exact Or.inl c68 | exact Or.inr (by omega))]⟩ | exact ih39 (i + 1) v (by omega) ⟨by omega, by omega, by omega, by omega, by rw [← hif, forI_s (i := i) (by omega), fst9_f (P := fun j => so (S.2.2.1 t j) q) (by first | exact Or.inl c64 | exact Or.inr ⟨c68, by omega⟩)]⟩
      exact loop39 40 0 (-1) (by omega) ⟨by omega, by omega, by omega, by omega, rfl⟩
    ·
      have hbad := c28
      refine x_iconst Z dX4_first_31 ?_
      exact x_iret Z E (by first | exact ⟨_, _, rfl, hS, hf0, thr2 hbad hc1 hc2⟩ | exact ⟨_, _, rfl, hS, hf0, Or.inr (Or.inr ⟨rfl, o1, o2, by rw [← hif, forI_e (by omega)]⟩)⟩) dX4_first_32 (Nat.le_of_ble_eq_true rfl) (Nat.le_of_ble_eq_true rfl)
  refine x_aload_n Z dX4_first_0 rfl rfl ?_
  refine x_iload_n Z dX4_first_1 rfl rfl ?_
  refine x_callS Z okX4_is q1071 q1072 dX4_first_2 (c_X4_is h0 htr (by assumption)) ⟨Nat.le_of_ble_eq_true rfl, Nat.le_of_ble_eq_true rfl, Nat.le_of_ble_eq_true rfl, Nat.le_of_ble_eq_true rfl⟩ rfl rfl (Nat.le_of_ble_eq_true rfl) (fun v9 w9 hR => ?_)
  obtain ⟨o9, rfl, e9, hq⟩ := hR
  refine x_ew e9 ?_
  simp only [Option.toList_some, Option.toList_none, List.cons_append, List.nil_append]
  refine x_ifb_ne Z 12 dX4_first_5 (by decide) (fun c5 => ?_) (fun c5 => ?_)
  ·
    have f5 := bq_t hq c5
    refine x_ib false Z dX4_first_12 (by decide) ?_
    refine x_iload_n Z dX4_first_13 rfl rfl ?_
    refine x_callS Z okX4_isQuestion q1142 q1143 dX4_first_14 (c_X4_isQuestion h0 htr (by assumption)) ⟨Nat.le_of_ble_eq_true rfl, Nat.le_of_ble_eq_true rfl, Nat.le_of_ble_eq_true rfl, Nat.le_of_ble_eq_true rfl⟩ rfl rfl (Nat.le_of_ble_eq_true rfl) (fun v9 w9 hR => ?_)
    obtain ⟨o9, rfl, e9, hq⟩ := hR
    refine x_ew e9 ?_
    simp only [Option.toList_some, Option.toList_none, List.cons_append, List.nil_append]
    refine x_ifb_ne Z 24 dX4_first_17 (by decide) (fun c17 => ?_) (fun c17 => ?_)
    ·
      have f17 := bq_t hq c17
      refine x_ib false Z dX4_first_24 (by decide) ?_
      exact join25 _ _ ⟨(by first | exact ⟨fun _ => by omega, fun _ => rfl⟩ | exact ⟨fun h => absurd h (by decide), fun h => (h (by omega)).elim⟩), (by first | exact ⟨fun _ => by omega, fun _ => rfl⟩ | exact ⟨fun h => absurd h (by decide), fun h => (h (by omega)).elim⟩)⟩
    ·
      have f17 := bq_f hq c17
      refine x_ib true Z dX4_first_20 (by decide) ?_
      refine x_goto Z 25 dX4_first_21 (by decide) ?_
      exact join25 _ _ ⟨(by first | exact ⟨fun _ => by omega, fun _ => rfl⟩ | exact ⟨fun h => absurd h (by decide), fun h => (h (by omega)).elim⟩), (by first | exact ⟨fun _ => by omega, fun _ => rfl⟩ | exact ⟨fun h => absurd h (by decide), fun h => (h (by omega)).elim⟩)⟩
  ·
    have f5 := bq_f hq c5
    refine x_ib true Z dX4_first_8 (by decide) ?_
    refine x_goto Z 13 dX4_first_9 (by decide) ?_
    refine x_iload_n Z dX4_first_13 rfl rfl ?_
    refine x_callS Z okX4_isQuestion q1142 q1143 dX4_first_14 (c_X4_isQuestion h0 htr (by assumption)) ⟨Nat.le_of_ble_eq_true rfl, Nat.le_of_ble_eq_true rfl, Nat.le_of_ble_eq_true rfl, Nat.le_of_ble_eq_true rfl⟩ rfl rfl (Nat.le_of_ble_eq_true rfl) (fun v9 w9 hR => ?_)
    obtain ⟨o9, rfl, e9, hq⟩ := hR
    refine x_ew e9 ?_
    simp only [Option.toList_some, Option.toList_none, List.cons_append, List.nil_append]
    refine x_ifb_ne Z 24 dX4_first_17 (by decide) (fun c17 => ?_) (fun c17 => ?_)
    ·
      have f17 := bq_t hq c17
      refine x_ib false Z dX4_first_24 (by decide) ?_
      exact join25 _ _ ⟨(by first | exact ⟨fun _ => by omega, fun _ => rfl⟩ | exact ⟨fun h => absurd h (by decide), fun h => (h (by omega)).elim⟩), (by first | exact ⟨fun _ => by omega, fun _ => rfl⟩ | exact ⟨fun h => absurd h (by decide), fun h => (h (by omega)).elim⟩)⟩
    ·
      have f17 := bq_f hq c17
      refine x_ib true Z dX4_first_20 (by decide) ?_
      refine x_goto Z 25 dX4_first_21 (by decide) ?_
      exact join25 _ _ ⟨(by first | exact ⟨fun _ => by omega, fun _ => rfl⟩ | exact ⟨fun h => absurd h (by decide), fun h => (h (by omega)).elim⟩), (by first | exact ⟨fun _ => by omega, fun _ => rfl⟩ | exact ⟨fun h => absurd h (by decide), fun h => (h (by omega)).elim⟩)⟩
abbrev rmc_X4_alike : Room := { frames := 2, cells := 0, slots := 0, locals := 43 }
set_option maxRecDepth 100000 in
theorem c_X4_alike {l : Launch} {s0 : State} {G : gK} {w : wd} (h0 : gS0 s0) (htr : l.stackTraces = false) {R : rA} {S : rM} {t : Int} {u : Int} (hS : rS G w R S) (hit : inr t) (hiu : inr u) : gM l s0 G yX4_alike [Cond.code yX4_alike cX4_alike 4 (some .boolean)] rmc_X4_alike [rv R.1, iv t, iv u] w (fun v w' => ∃ (z : Bool) (T : Int), v = some (iv (b2 z)) ∧ rS G w' R (rT S T) ∧ fr (rP R S.1) w w' ∧ ((T = 1 ∧ ¬ ((0 ≤ t ∧ t < 3) ∧ 0 ≤ u ∧ u < 3)) ∨ (T = 0 ∧ ((0 ≤ t ∧ t < 3) ∧ 0 ≤ u ∧ u < 3) ∧ (z = decide (S.2.1 t = S.2.1 u ∧ findI (fun j => decide (kin (S.2.2.1 t j) ≠ kin (S.2.2.1 u j))) 0 (S.2.1 t) = S.2.1 t))))) (noX) := by
  refine g_of h0 htr (by decide +kernel) (Nat.le_of_ble_eq_true rfl) ?_
  intro b Z0 E
  have Z : gAm b l s0 G cX4_alike RX4 4 rmc_X4_alike := Z0
  refine x_el (L' := [(0, rv R.1), (1, iv t), (2, iv u)]) rfl ?_
  obtain ⟨hr1, hr2, ⟨f3, hr3, hf3⟩, hr4, hr5, hr6⟩ := id hS
  have hf0 : fr (rP R S.1) w w := fr.rf
  have join20 : ∀ (c1 : Bool), (c1 = true ↔ ¬ ((0 ≤ t ∧ t < 3) ∧ 0 ≤ u ∧ u < 3)) → gX b s0 G (0) (0) 20 [(0, rv R.1), (1, iv t), (2, iv u)] [iv (b2 c1), rv R.1] (w) := by
    intro c1 hv
    have hc1 := hv
    refine x_callV (ci := 5) (C := RX4) (T := TX4) (N := 7) Z okX4_isThrown_ q1106 q1108 q15 rfl dX4_alike_20 (c_X4_isThrown_ h0 htr hS) hS.1 ⟨Nat.le_of_ble_eq_true rfl, Nat.le_of_ble_eq_true rfl, Nat.le_of_ble_eq_true rfl, Nat.le_of_ble_eq_true rfl⟩ rfl rfl (Nat.le_of_ble_eq_true rfl) (fun v9 w9 hR => ?_)
    obtain ⟨rfl, hS, hf9⟩ := hR
    have hf0 := hf0.tr hf9
    simp only [Option.toList_some, Option.toList_none, List.cons_append, List.nil_append]
    refine x_ifb_ne Z 41 dX4_alike_23 (by decide) (fun c23 => ?_) (fun c23 => ?_)
    ·
      have hbad := c23
      refine x_ib false Z dX4_alike_41 (by decide) ?_
      exact x_zret Z E (by first | exact ⟨_, _, rfl, hS, hf0, Or.inl ⟨by rw [hbad]; rfl, hc1.mp hbad⟩⟩ | exact ⟨_, _, rfl, hS, hf0, Or.inr ⟨rfl, o1, by rw [decide_eq_false (by omega)]⟩⟩) dX4_alike_42 (Nat.le_of_ble_eq_true rfl) (Nat.le_of_ble_eq_true rfl)
    ·
      have ea := c23
      have o1 := bq_n hc1 ea
      subst ea
      obtain ⟨hr1, hr2, ⟨f3, hr3, hf3⟩, hr4, hr5, hr6⟩ := id hS
      obtain ⟨hrt, hn0, hn30, hC⟩ := hr5 t (by omega) (by omega)
      try dsimp only [rT] at hr1 hf3 hr4 hr5 hr6
      try dsimp only [rT] at hrt hn0 hn30 hC
      have en : (rT S (th2 false false)).2.1 t = S.2.1 t := rfl
      obtain ⟨hru, hm0, hm30, hD⟩ := hr5 u (by omega) (by omega)
      try dsimp only [rT] at hru hm0 hm30 hD
      refine x_aload_n Z dX4_alike_26 rfl rfl ?_
      refine x_getf (ci := 5) (j := 2) (C := RX4) (T := TX4) (N := 7) Z inX4g rfl (by decide) q1043 rfl dX4_alike_27 (by assumption) rfl ?_
      refine x_iload_n Z dX4_alike_30 rfl rfl ?_
      refine x_iald Z dX4_alike_31 (by assumption) (by omega) (by omega) (by omega) ?_
      refine x_aload_n Z dX4_alike_32 rfl rfl ?_
      refine x_getf (ci := 5) (j := 2) (C := RX4) (T := TX4) (N := 7) Z inX4g rfl (by decide) q1043 rfl dX4_alike_33 (by assumption) rfl ?_
      refine x_iload_n Z dX4_alike_36 rfl rfl ?_
      refine x_iald Z dX4_alike_37 (by assumption) (by omega) (by omega) (by omega) ?_
      refine x_icmp_eq Z 43 dX4_alike_38 (by decide) ⟨by omega, by omega⟩ ⟨by omega, by omega⟩ (fun c38 => ?_) (fun c38 => ?_)
      ·
        refine x_iconst Z dX4_alike_43 ?_
        refine x_istore_n (L' := [(3, _), (0, _), (1, _), (2, _)]) Z dX4_alike_44 rfl (Nat.le_of_ble_eq_true rfl) rfl ?_
        have loop45 : ∀ (fu : Nat) (i : Int), (S.2.1 t) - i < (fu : Int) → (0 ≤ i ∧ i ≤ (S.2.1 t) ∧ findI (fun j => decide (kin (S.2.2.1 t j) ≠ kin (S.2.2.1 u j))) i (S.2.1 t) = findI (fun j => decide (kin (S.2.2.1 t j) ≠ kin (S.2.2.1 u j))) 0 (S.2.1 t)) → gX b s0 G (0) (0) 45 [(3, iv i), (0, rv R.1), (1, iv t), (2, iv u)] [] (w9) := by
          intro fu; induction fu with
          | zero => intro i hm hv; exact absurd hm (by omega)
          | succ fu ih45 =>
            intro i hm hv
            obtain ⟨hi0, hin, hif⟩ := hv
            have hCi := hC i
            have hDi := hD i
            have hka := kin_in (S.2.2.1 t i)
            have hkb := kin_in (S.2.2.1 u i)
            refine x_iload_n Z dX4_alike_45 rfl rfl ?_
            refine x_aload_n Z dX4_alike_46 rfl rfl ?_
            refine x_getf (ci := 5) (j := 2) (C := RX4) (T := TX4) (N := 7) Z inX4g rfl (by decide) q1043 rfl dX4_alike_47 (by assumption) rfl ?_
            refine x_iload_n Z dX4_alike_50 rfl rfl ?_
            refine x_iald Z dX4_alike_51 (by assumption) (by omega) (by omega) (by omega) ?_
            refine x_icmp_ge Z 92 dX4_alike_52 (by decide) ⟨by omega, by omega⟩ ⟨by omega, by omega⟩ (fun c52 => ?_) (fun c52 => ?_)
            ·
              refine x_ib true Z dX4_alike_92 (by decide) ?_
              exact x_zret Z E (⟨_, _, rfl, hS, hf0, Or.inr ⟨rfl, o1, by rw [← hif, findI_e (by omega), decide_eq_true (by omega)]⟩⟩) dX4_alike_93 (Nat.le_of_ble_eq_true rfl) (Nat.le_of_ble_eq_true rfl)
            ·
              refine x_aload_n Z dX4_alike_55 rfl rfl ?_
              refine x_getf (ci := 5) (j := 0) (C := RX4) (T := TX4) (N := 7) Z inX4g rfl (by decide) q1041 rfl dX4_alike_56 (by assumption) rfl ?_
              refine x_aload_n Z dX4_alike_59 rfl rfl ?_
              refine x_getf (ci := 5) (j := 1) (C := RX4) (T := TX4) (N := 7) Z inX4g rfl (by decide) q1042 rfl dX4_alike_60 (by assumption) rfl ?_
              refine x_iload_n Z dX4_alike_63 rfl rfl ?_
              refine x_aaldR Z dX4_alike_64 hr3 (by decide) (by omega) (by omega) (hf3 t (by omega) (by omega)) ?_
              refine x_iload_n Z dX4_alike_65 rfl rfl ?_
              refine x_iald Z dX4_alike_66 (by assumption) (by omega) (by omega) (by omega) ?_
              refine x_iald Z dX4_alike_67 (by assumption) (by omega) (by omega) (by omega) ?_
              refine x_aload_n Z dX4_alike_68 rfl rfl ?_
              refine x_getf (ci := 5) (j := 0) (C := RX4) (T := TX4) (N := 7) Z inX4g rfl (by decide) q1041 rfl dX4_alike_69 (by assumption) rfl ?_
              refine x_aload_n Z dX4_alike_72 rfl rfl ?_
              refine x_getf (ci := 5) (j := 1) (C := RX4) (T := TX4) (N := 7) Z inX4g rfl (by decide) q1042 rfl dX4_alike_73 (by assumption) rfl ?_
              refine x_iload_n Z dX4_alike_76 rfl rfl ?_
              refine x_aaldR Z dX4_alike_77 hr3 (by decide) (by omega) (by omega) (hf3 u (by omega) (by omega)) ?_
              refine x_iload_n Z dX4_alike_78 rfl rfl ?_
              refine x_iald Z dX4_alike_79 (by assumption) (by omega) (by omega) (by omega) ?_
              refine x_iald Z dX4_alike_80 (by assumption) (by omega) (by omega) (by omega) ?_
              refine x_icmp_eq Z 86 dX4_alike_81 (by decide) ⟨by omega, by omega⟩ ⟨by omega, by omega⟩ (fun c81 => ?_) (fun c81 => ?_)
              ·
                refine x_iinc (L' := [(3, _), (0, _), (1, _), (2, _)]) Z dX4_alike_86 rfl (Nat.le_of_ble_eq_true rfl) rfl ?_
                refine x_goto Z 45 dX4_alike_89 (by decide) ?_
                exact ih45 (i + 1) (by omega) ⟨by omega, by omega, by rw [← hif]; exact (findI_m (by omega) (by simpa using c81)).symm⟩
              ·
                refine x_ib false Z dX4_alike_84 (by decide) ?_
                exact x_zret Z E (⟨_, _, rfl, hS, hf0, Or.inr ⟨rfl, o1, by rw [← hif, findI_h (by simpa using c81), decide_eq_false (by omega)]⟩⟩) dX4_alike_85 (Nat.le_of_ble_eq_true rfl) (Nat.le_of_ble_eq_true rfl)
        exact loop45 40 0 (by omega) ⟨by omega, by omega, rfl⟩
      ·
        refine x_ib false Z dX4_alike_41 (by decide) ?_
        exact x_zret Z E (by first | exact ⟨_, _, rfl, hS, hf0, Or.inl ⟨by rw [hbad]; rfl, hc1.mp hbad⟩⟩ | exact ⟨_, _, rfl, hS, hf0, Or.inr ⟨rfl, o1, by rw [decide_eq_false (by omega)]⟩⟩) dX4_alike_42 (Nat.le_of_ble_eq_true rfl) (Nat.le_of_ble_eq_true rfl)
  refine x_aload_n Z dX4_alike_0 rfl rfl ?_
  refine x_iload_n Z dX4_alike_1 rfl rfl ?_
  refine x_callS Z okX4_is q1071 q1072 dX4_alike_2 (c_X4_is h0 htr (by assumption)) ⟨Nat.le_of_ble_eq_true rfl, Nat.le_of_ble_eq_true rfl, Nat.le_of_ble_eq_true rfl, Nat.le_of_ble_eq_true rfl⟩ rfl rfl (Nat.le_of_ble_eq_true rfl) (fun v9 w9 hR => ?_)
  obtain ⟨o9, rfl, e9, hq⟩ := hR
  refine x_ew e9 ?_
  simp only [Option.toList_some, Option.toList_none, List.cons_append, List.nil_append]
  refine x_ifb_eq Z 15 dX4_alike_5 (by decide) (fun c5 => ?_) (fun c5 => ?_)
  ·
    have f5 := bq_f hq c5
    refine x_ib true Z dX4_alike_15 (by decide) ?_
    refine x_goto Z 20 dX4_alike_16 (by decide) ?_
    exact join20 _ (by first | exact ⟨fun _ => by omega, fun _ => rfl⟩ | exact ⟨fun h => absurd h (by decide), fun h => (h (by omega)).elim⟩)
  ·
    have f5 := bq_t hq c5
    refine x_iload_n Z dX4_alike_8 rfl rfl ?_
    refine x_callS Z okX4_is q1071 q1072 dX4_alike_9 (c_X4_is h0 htr (by assumption)) ⟨Nat.le_of_ble_eq_true rfl, Nat.le_of_ble_eq_true rfl, Nat.le_of_ble_eq_true rfl, Nat.le_of_ble_eq_true rfl⟩ rfl rfl (Nat.le_of_ble_eq_true rfl) (fun v9 w9 hR => ?_)
    obtain ⟨o9, rfl, e9, hq⟩ := hR
    refine x_ew e9 ?_
    simp only [Option.toList_some, Option.toList_none, List.cons_append, List.nil_append]
    refine x_ifb_ne Z 19 dX4_alike_12 (by decide) (fun c12 => ?_) (fun c12 => ?_)
    ·
      have f12 := bq_t hq c12
      refine x_ib false Z dX4_alike_19 (by decide) ?_
      exact join20 _ (by first | exact ⟨fun _ => by omega, fun _ => rfl⟩ | exact ⟨fun h => absurd h (by decide), fun h => (h (by omega)).elim⟩)
    ·
      have f12 := bq_f hq c12
      refine x_ib true Z dX4_alike_15 (by decide) ?_
      refine x_goto Z 20 dX4_alike_16 (by decide) ?_
      exact join20 _ (by first | exact ⟨fun _ => by omega, fun _ => rfl⟩ | exact ⟨fun h => absurd h (by decide), fun h => (h (by omega)).elim⟩)
abbrev rmc_X4_isName : Room := { frames := 6, cells := 0, slots := 0, locals := 135 }
set_option maxRecDepth 100000 in
theorem c_X4_isName {l : Launch} {s0 : State} {G : gK} {w : wd} (h0 : gS0 s0) (htr : l.stackTraces = false) {R : rA} {S : rM} {t : Int} (hS : rS G w R S) (hit : inr t) : gM l s0 G yX4_isName [Cond.code yX4_isName cX4_isName 2 (some .boolean)] rmc_X4_isName [rv R.1, iv t] w (fun v w' => ∃ (z : Bool) (T : Int), v = some (iv (b2 z)) ∧ rS G w' R (rT S T) ∧ fr (rP R S.1) w w' ∧ ((T = 1 ∧ ¬ (0 ≤ t ∧ t < 3)) ∨ (T = 0 ∧ (0 ≤ t ∧ t < 3) ∧ (z = decide (0 < S.2.1 t ∧ sb (S.2.2.1 t 0) = 0 ∧ lon (S.2.1 t) (S.2.2.1 t) 0 = S.2.1 t))))) (noX) := by
  refine g_of h0 htr (by decide +kernel) (Nat.le_of_ble_eq_true rfl) ?_
  intro b Z0 E
  have Z : gAm b l s0 G cX4_isName RX4 2 rmc_X4_isName := Z0
  refine x_el (L' := [(0, rv R.1), (1, iv t)]) rfl ?_
  obtain ⟨hr1, hr2, ⟨f3, hr3, hf3⟩, hr4, hr5, hr6⟩ := id hS
  have hf0 : fr (rP R S.1) w w := fr.rf
  have join13 : ∀ (c1 : Bool), (c1 = true ↔ ¬ (0 ≤ t ∧ t < 3)) → gX b s0 G (0) (0) 13 [(0, rv R.1), (1, iv t)] [iv (b2 c1), rv R.1] (w) := by
    intro c1 hv
    have hc1 := hv
    refine x_callV (ci := 5) (C := RX4) (T := TX4) (N := 7) Z okX4_isThrown_ q1106 q1108 q15 rfl dX4_isName_13 (c_X4_isThrown_ h0 htr hS) hS.1 ⟨Nat.le_of_ble_eq_true rfl, Nat.le_of_ble_eq_true rfl, Nat.le_of_ble_eq_true rfl, Nat.le_of_ble_eq_true rfl⟩ rfl rfl (Nat.le_of_ble_eq_true rfl) (fun v9 w9 hR => ?_)
    obtain ⟨rfl, hS, hf9⟩ := hR
    have hf0 := hf0.tr hf9
    simp only [Option.toList_some, Option.toList_none, List.cons_append, List.nil_append]
    refine x_ifb_ne Z 31 dX4_isName_16 (by decide) (fun c16 => ?_) (fun c16 => ?_)
    ·
      have hbad := c16
      refine x_ib false Z dX4_isName_31 (by decide) ?_
      exact x_zret Z E (by first | exact ⟨_, _, rfl, hS, hf0, Or.inl ⟨by rw [hbad]; rfl, hc1.mp hbad⟩⟩ | exact ⟨_, _, rfl, hS, hf0, Or.inr ⟨rfl, o1, by rw [← c24]⟩⟩) dX4_isName_32 (Nat.le_of_ble_eq_true rfl) (Nat.le_of_ble_eq_true rfl)
    ·
      have ea := c16
      have o1 := bq_n hc1 ea
      subst ea
      obtain ⟨hr1, hr2, ⟨f3, hr3, hf3⟩, hr4, hr5, hr6⟩ := id hS
      obtain ⟨hrt, hn0, hn30, hC⟩ := hr5 t (by omega) (by omega)
      try dsimp only [rT] at hr1 hf3 hr4 hr5 hr6
      try dsimp only [rT] at hrt hn0 hn30 hC
      have en : (rT S (th2 false false)).2.1 t = S.2.1 t := rfl
      refine x_aload_n Z dX4_isName_19 rfl rfl ?_
      refine x_iload_n Z dX4_isName_20 rfl rfl ?_
      refine x_callV (ci := 5) (C := RX4) (T := TX4) (N := 7) Z okX4_isNameNow q1301 q1303 q26 rfl dX4_isName_21 (c_X4_isNameNow h0 htr hS (by omega) (by omega)) hS.1 ⟨Nat.le_of_ble_eq_true rfl, Nat.le_of_ble_eq_true rfl, Nat.le_of_ble_eq_true rfl, Nat.le_of_ble_eq_true rfl⟩ rfl rfl (Nat.le_of_ble_eq_true rfl) (fun v9 w9 hR => ?_)
      obtain ⟨rfl, e9⟩ := hR
      refine x_ew e9 ?_
      simp only [Option.toList_some, Option.toList_none, List.cons_append, List.nil_append]
      refine x_ifb_eq Z 31 dX4_isName_24 (by decide) (fun c24 => ?_) (fun c24 => ?_)
      ·
        refine x_ib false Z dX4_isName_31 (by decide) ?_
        exact x_zret Z E (by first | exact ⟨_, _, rfl, hS, hf0, Or.inl ⟨by rw [hbad]; rfl, hc1.mp hbad⟩⟩ | exact ⟨_, _, rfl, hS, hf0, Or.inr ⟨rfl, o1, by rw [← c24]⟩⟩) dX4_isName_32 (Nat.le_of_ble_eq_true rfl) (Nat.le_of_ble_eq_true rfl)
      ·
        refine x_ib true Z dX4_isName_27 (by decide) ?_
        refine x_goto Z 32 dX4_isName_28 (by decide) ?_
        exact x_zret Z E (by first | exact ⟨_, _, rfl, hS, hf0, Or.inl ⟨by rw [hbad]; rfl, hc1.mp hbad⟩⟩ | exact ⟨_, _, rfl, hS, hf0, Or.inr ⟨rfl, o1, by rw [← c24]⟩⟩) dX4_isName_32 (Nat.le_of_ble_eq_true rfl) (Nat.le_of_ble_eq_true rfl)
  refine x_aload_n Z dX4_isName_0 rfl rfl ?_
  refine x_iload_n Z dX4_isName_1 rfl rfl ?_
  refine x_callS Z okX4_is q1071 q1072 dX4_isName_2 (c_X4_is h0 htr (by assumption)) ⟨Nat.le_of_ble_eq_true rfl, Nat.le_of_ble_eq_true rfl, Nat.le_of_ble_eq_true rfl, Nat.le_of_ble_eq_true rfl⟩ rfl rfl (Nat.le_of_ble_eq_true rfl) (fun v9 w9 hR => ?_)
  obtain ⟨o9, rfl, e9, hq⟩ := hR
  refine x_ew e9 ?_
  simp only [Option.toList_some, Option.toList_none, List.cons_append, List.nil_append]
  refine x_ifb_ne Z 12 dX4_isName_5 (by decide) (fun c5 => ?_) (fun c5 => ?_)
  ·
    have f5 := bq_t hq c5
    refine x_ib false Z dX4_isName_12 (by decide) ?_
    exact join13 _ (by first | exact ⟨fun _ => by omega, fun _ => rfl⟩ | exact ⟨fun h => absurd h (by decide), fun h => (h (by omega)).elim⟩)
  ·
    have f5 := bq_f hq c5
    refine x_ib true Z dX4_isName_8 (by decide) ?_
    refine x_goto Z 13 dX4_isName_9 (by decide) ?_
    exact join13 _ (by first | exact ⟨fun _ => by omega, fun _ => rfl⟩ | exact ⟨fun h => absurd h (by decide), fun h => (h (by omega)).elim⟩)
abbrev rmc_X4_fault : Room := { frames := 4, cells := 0, slots := 0, locals := 88 }
set_option maxRecDepth 100000 in
theorem c_X4_fault {l : Launch} {s0 : State} {G : gK} {w : wd} (h0 : gS0 s0) (htr : l.stackTraces = false) {R : rA} {S : rM} {t : Int} (hS : rS G w R S) (hit : inr t) : gM l s0 G yX4_fault [Cond.code yX4_fault cX4_fault 2 (some .int)] rmc_X4_fault [rv R.1, iv t] w (fun v w' => ∃ (z : Int) (T : Int), v = some (iv z) ∧ rS G w' R (rT S T) ∧ fr (rP R S.1) w w' ∧ ((T = 1 ∧ ¬ (0 ≤ t ∧ t < 3)) ∨ (T = 0 ∧ (0 ≤ t ∧ t < 3) ∧ (z = if findI (fun j => !so (S.2.2.1 t j) (cond (decide (j = 0)) 11 12)) 0 (S.2.1 t) < S.2.1 t then findI (fun j => !so (S.2.2.1 t j) (cond (decide (j = 0)) 11 12)) 0 (S.2.1 t) else if S.2.1 t = 0 then 0 else -1)))) (noX) := by
  refine g_of h0 htr (by decide +kernel) (Nat.le_of_ble_eq_true rfl) ?_
  intro b Z0 E
  have Z : gAm b l s0 G cX4_fault RX4 2 rmc_X4_fault := Z0
  refine x_el (L' := [(0, rv R.1), (1, iv t)]) rfl ?_
  obtain ⟨hr1, hr2, ⟨f3, hr3, hf3⟩, hr4, hr5, hr6⟩ := id hS
  have hf0 : fr (rP R S.1) w w := fr.rf
  have join13 : ∀ (c1 : Bool), (c1 = true ↔ ¬ (0 ≤ t ∧ t < 3)) → gX b s0 G (0) (0) 13 [(0, rv R.1), (1, iv t)] [iv (b2 c1), rv R.1] (w) := by
    intro c1 hv
    have hc1 := hv
    refine x_callV (ci := 5) (C := RX4) (T := TX4) (N := 7) Z okX4_isThrown_ q1106 q1108 q15 rfl dX4_fault_13 (c_X4_isThrown_ h0 htr hS) hS.1 ⟨Nat.le_of_ble_eq_true rfl, Nat.le_of_ble_eq_true rfl, Nat.le_of_ble_eq_true rfl, Nat.le_of_ble_eq_true rfl⟩ rfl rfl (Nat.le_of_ble_eq_true rfl) (fun v9 w9 hR => ?_)
    obtain ⟨rfl, hS, hf9⟩ := hR
    have hf0 := hf0.tr hf9
    simp only [Option.toList_some, Option.toList_none, List.cons_append, List.nil_append]
    refine x_ifb_eq Z 23 dX4_fault_16 (by decide) (fun c16 => ?_) (fun c16 => ?_)
    ·
      have ea := c16
      have o1 := bq_n hc1 ea
      subst ea
      obtain ⟨hr1, hr2, ⟨f3, hr3, hf3⟩, hr4, hr5, hr6⟩ := id hS
      obtain ⟨hrt, hn0, hn30, hC⟩ := hr5 t (by omega) (by omega)
      try dsimp only [rT] at hr1 hf3 hr4 hr5 hr6
      try dsimp only [rT] at hrt hn0 hn30 hC
      have en : (rT S (th2 false false)).2.1 t = S.2.1 t := rfl
      refine x_aload_n Z dX4_fault_23 rfl rfl ?_
      refine x_iload_n Z dX4_fault_24 rfl rfl ?_
      refine x_callV (ci := 5) (C := RX4) (T := TX4) (N := 7) Z okX4_faultOf q1309 q1311 q27 rfl dX4_fault_25 (c_X4_faultOf h0 htr hS (by omega) (by omega)) hS.1 ⟨Nat.le_of_ble_eq_true rfl, Nat.le_of_ble_eq_true rfl, Nat.le_of_ble_eq_true rfl, Nat.le_of_ble_eq_true rfl⟩ rfl rfl (Nat.le_of_ble_eq_true rfl) (fun v9 w9 hR => ?_)
      obtain ⟨rfl, e9⟩ := hR
      refine x_ew e9 ?_
      simp only [Option.toList_some, Option.toList_none, List.cons_append, List.nil_append]
      exact x_iret Z E (by first | exact ⟨_, _, rfl, hS, hf0, Or.inl ⟨by rw [hbad]; rfl, hc1.mp hbad⟩⟩ | exact ⟨_, _, rfl, hS, hf0, Or.inr ⟨rfl, o1, rfl⟩⟩) dX4_fault_28 (Nat.le_of_ble_eq_true rfl) (Nat.le_of_ble_eq_true rfl)
    ·
      have hbad := c16
      refine x_iconst Z dX4_fault_19 ?_
      refine x_goto Z 28 dX4_fault_20 (by decide) ?_
      exact x_iret Z E (by first | exact ⟨_, _, rfl, hS, hf0, Or.inl ⟨by rw [hbad]; rfl, hc1.mp hbad⟩⟩ | exact ⟨_, _, rfl, hS, hf0, Or.inr ⟨rfl, o1, rfl⟩⟩) dX4_fault_28 (Nat.le_of_ble_eq_true rfl) (Nat.le_of_ble_eq_true rfl)
  refine x_aload_n Z dX4_fault_0 rfl rfl ?_
  refine x_iload_n Z dX4_fault_1 rfl rfl ?_
  refine x_callS Z okX4_is q1071 q1072 dX4_fault_2 (c_X4_is h0 htr (by assumption)) ⟨Nat.le_of_ble_eq_true rfl, Nat.le_of_ble_eq_true rfl, Nat.le_of_ble_eq_true rfl, Nat.le_of_ble_eq_true rfl⟩ rfl rfl (Nat.le_of_ble_eq_true rfl) (fun v9 w9 hR => ?_)
  obtain ⟨o9, rfl, e9, hq⟩ := hR
  refine x_ew e9 ?_
  simp only [Option.toList_some, Option.toList_none, List.cons_append, List.nil_append]
  refine x_ifb_ne Z 12 dX4_fault_5 (by decide) (fun c5 => ?_) (fun c5 => ?_)
  ·
    have f5 := bq_t hq c5
    refine x_ib false Z dX4_fault_12 (by decide) ?_
    exact join13 _ (by first | exact ⟨fun _ => by omega, fun _ => rfl⟩ | exact ⟨fun h => absurd h (by decide), fun h => (h (by omega)).elim⟩)
  ·
    have f5 := bq_f hq c5
    refine x_ib true Z dX4_fault_8 (by decide) ?_
    refine x_goto Z 13 dX4_fault_9 (by decide) ?_
    exact join13 _ (by first | exact ⟨fun _ => by omega, fun _ => rfl⟩ | exact ⟨fun h => absurd h (by decide), fun h => (h (by omega)).elim⟩)
abbrev rmc_X4_sort : Room := { frames := 5, cells := 0, slots := 0, locals := 114 }
set_option maxRecDepth 100000 in
theorem c_X4_sort {l : Launch} {s0 : State} {G : gK} {w : wd} (h0 : gS0 s0) (htr : l.stackTraces = false) {R : rA} {S : rM} {t : Int} {f : Int} {g : Int} (hS : rS G w R S) (hit : inr t) (hif : inr f) (hig : inr g) : gM l s0 G yX4_sort [Cond.code yX4_sort cX4_sort 4 (some .int)] rmc_X4_sort [rv R.1, iv t, iv f, iv g] w (fun v w' => ∃ (z : Int) (T : Int), v = some (iv z) ∧ rS G w' R (rT S T) ∧ fr (rP R S.1) w w' ∧ ((T = 1 ∧ ¬ ((0 ≤ t ∧ t < 3) ∧ 0 ≤ f ∧ f < g ∧ g ≤ S.2.1 t)) ∨ (T = 0 ∧ ((0 ≤ t ∧ t < 3) ∧ 0 ≤ f ∧ f < g ∧ g ≤ S.2.1 t) ∧ (z = srt (S.2.1 t) (S.2.2.1 t) f g)))) (noX) := by
  refine g_of h0 htr (by decide +kernel) (Nat.le_of_ble_eq_true rfl) ?_
  intro b Z0 E
  have Z : gAm b l s0 G cX4_sort RX4 4 rmc_X4_sort := Z0
  refine x_el (L' := [(0, rv R.1), (1, iv t), (2, iv f), (3, iv g)]) rfl ?_
  obtain ⟨hr1, hr2, ⟨f3, hr3, hf3⟩, hr4, hr5, hr6⟩ := id hS
  have hf0 : fr (rP R S.1) w w := fr.rf
  have join32 : ∀ (c1 : Bool), (c1 = true ↔ ¬ ((0 ≤ t ∧ t < 3) ∧ 0 ≤ f ∧ f < g ∧ g ≤ S.2.1 t)) → gX b s0 G (0) (0) 32 [(0, rv R.1), (1, iv t), (2, iv f), (3, iv g)] [iv (b2 c1), rv R.1] (w) := by
    intro c1 hv
    have hc1 := hv
    refine x_callV (ci := 5) (C := RX4) (T := TX4) (N := 7) Z okX4_isThrown_ q1106 q1108 q15 rfl dX4_sort_32 (c_X4_isThrown_ h0 htr hS) hS.1 ⟨Nat.le_of_ble_eq_true rfl, Nat.le_of_ble_eq_true rfl, Nat.le_of_ble_eq_true rfl, Nat.le_of_ble_eq_true rfl⟩ rfl rfl (Nat.le_of_ble_eq_true rfl) (fun v9 w9 hR => ?_)
    obtain ⟨rfl, hS, hf9⟩ := hR
    have hf0 := hf0.tr hf9
    simp only [Option.toList_some, Option.toList_none, List.cons_append, List.nil_append]
    refine x_ifb_eq Z 42 dX4_sort_35 (by decide) (fun c35 => ?_) (fun c35 => ?_)
    ·
      have ea := c35
      have o1 := bq_n hc1 ea
      subst ea
      obtain ⟨hr1, hr2, ⟨f3, hr3, hf3⟩, hr4, hr5, hr6⟩ := id hS
      obtain ⟨hrt, hn0, hn30, hC⟩ := hr5 t (by omega) (by omega)
      try dsimp only [rT] at hr1 hf3 hr4 hr5 hr6
      try dsimp only [rT] at hrt hn0 hn30 hC
      have en : (rT S (th2 false false)).2.1 t = S.2.1 t := rfl
      refine x_aload_n Z dX4_sort_42 rfl rfl ?_
      refine x_iload_n Z dX4_sort_43 rfl rfl ?_
      refine x_iload_n Z dX4_sort_44 rfl rfl ?_
      refine x_iload_n Z dX4_sort_45 rfl rfl ?_
      refine x_callV (ci := 5) (C := RX4) (T := TX4) (N := 7) Z okX4_sortOf q1179 q1181 q21 rfl dX4_sort_46 (c_X4_sortOf h0 htr hS (by omega) (by omega) (by omega) (by omega) (by omega)) hS.1 ⟨Nat.le_of_ble_eq_true rfl, Nat.le_of_ble_eq_true rfl, Nat.le_of_ble_eq_true rfl, Nat.le_of_ble_eq_true rfl⟩ rfl rfl (Nat.le_of_ble_eq_true rfl) (fun v9 w9 hR => ?_)
      obtain ⟨rfl, e9⟩ := hR
      refine x_ew e9 ?_
      simp only [Option.toList_some, Option.toList_none, List.cons_append, List.nil_append]
      exact x_iret Z E (by first | exact ⟨_, _, rfl, hS, hf0, Or.inl ⟨by rw [hbad]; rfl, hc1.mp hbad⟩⟩ | exact ⟨_, _, rfl, hS, hf0, Or.inr ⟨rfl, o1, rfl⟩⟩) dX4_sort_49 (Nat.le_of_ble_eq_true rfl) (Nat.le_of_ble_eq_true rfl)
    ·
      have hbad := c35
      refine x_iconst Z dX4_sort_38 ?_
      refine x_goto Z 49 dX4_sort_39 (by decide) ?_
      exact x_iret Z E (by first | exact ⟨_, _, rfl, hS, hf0, Or.inl ⟨by rw [hbad]; rfl, hc1.mp hbad⟩⟩ | exact ⟨_, _, rfl, hS, hf0, Or.inr ⟨rfl, o1, rfl⟩⟩) dX4_sort_49 (Nat.le_of_ble_eq_true rfl) (Nat.le_of_ble_eq_true rfl)
  refine x_aload_n Z dX4_sort_0 rfl rfl ?_
  refine x_iload_n Z dX4_sort_1 rfl rfl ?_
  refine x_callS Z okX4_is q1071 q1072 dX4_sort_2 (c_X4_is h0 htr (by assumption)) ⟨Nat.le_of_ble_eq_true rfl, Nat.le_of_ble_eq_true rfl, Nat.le_of_ble_eq_true rfl, Nat.le_of_ble_eq_true rfl⟩ rfl rfl (Nat.le_of_ble_eq_true rfl) (fun v9 w9 hR => ?_)
  obtain ⟨o9, rfl, e9, hq⟩ := hR
  refine x_ew e9 ?_
  simp only [Option.toList_some, Option.toList_none, List.cons_append, List.nil_append]
  refine x_ifb_eq Z 27 dX4_sort_5 (by decide) (fun c5 => ?_) (fun c5 => ?_)
  ·
    have f5 := bq_f hq c5
    refine x_ib true Z dX4_sort_27 (by decide) ?_
    refine x_goto Z 32 dX4_sort_28 (by decide) ?_
    exact join32 _ (by first | exact ⟨fun _ => by omega, fun _ => rfl⟩ | exact ⟨fun h => absurd h (by decide), fun h => (h (by omega)).elim⟩)
  ·
    have f5 := bq_t hq c5
    refine x_iload_n Z dX4_sort_8 rfl rfl ?_
    refine x_if_lt Z 27 dX4_sort_9 (by decide) ⟨by omega, by omega⟩ (fun c9 => ?_) (fun c9 => ?_)
    ·
      refine x_ib true Z dX4_sort_27 (by decide) ?_
      refine x_goto Z 32 dX4_sort_28 (by decide) ?_
      exact join32 _ (by first | exact ⟨fun _ => by omega, fun _ => rfl⟩ | exact ⟨fun h => absurd h (by decide), fun h => (h (by omega)).elim⟩)
    ·
      refine x_iload_n Z dX4_sort_12 rfl rfl ?_
      refine x_iload_n Z dX4_sort_13 rfl rfl ?_
      refine x_icmp_ge Z 27 dX4_sort_14 (by decide) ⟨by omega, by omega⟩ ⟨by omega, by omega⟩ (fun c14 => ?_) (fun c14 => ?_)
      ·
        refine x_ib true Z dX4_sort_27 (by decide) ?_
        refine x_goto Z 32 dX4_sort_28 (by decide) ?_
        exact join32 _ (by first | exact ⟨fun _ => by omega, fun _ => rfl⟩ | exact ⟨fun h => absurd h (by decide), fun h => (h (by omega)).elim⟩)
      ·
        have ⟨_, hn0, hn30, _⟩ := hr5 t (by omega) (by omega)
        refine x_iload_n Z dX4_sort_17 rfl rfl ?_
        refine x_aload_n Z dX4_sort_18 rfl rfl ?_
        refine x_getf (ci := 5) (j := 2) (C := RX4) (T := TX4) (N := 7) Z inX4g rfl (by decide) q1043 rfl dX4_sort_19 (by assumption) rfl ?_
        refine x_iload_n Z dX4_sort_22 rfl rfl ?_
        refine x_iald Z dX4_sort_23 (by assumption) (by omega) (by omega) (by omega) ?_
        refine x_icmp_le Z 31 dX4_sort_24 (by decide) ⟨by omega, by omega⟩ ⟨by omega, by omega⟩ (fun c24 => ?_) (fun c24 => ?_)
        ·
          refine x_ib false Z dX4_sort_31 (by decide) ?_
          exact join32 _ (by first | exact ⟨fun _ => by omega, fun _ => rfl⟩ | exact ⟨fun h => absurd h (by decide), fun h => (h (by omega)).elim⟩)
        ·
          refine x_ib true Z dX4_sort_27 (by decide) ?_
          refine x_goto Z 32 dX4_sort_28 (by decide) ?_
          exact join32 _ (by first | exact ⟨fun _ => by omega, fun _ => rfl⟩ | exact ⟨fun h => absurd h (by decide), fun h => (h (by omega)).elim⟩)
abbrev rmc_X4_longest : Room := { frames := 6, cells := 0, slots := 0, locals := 137 }
set_option maxRecDepth 100000 in
theorem c_X4_longest {l : Launch} {s0 : State} {G : gK} {w : wd} (h0 : gS0 s0) (htr : l.stackTraces = false) {R : rA} {S : rM} {t : Int} {p : Int} (hS : rS G w R S) (hit : inr t) (hip : inr p) : gM l s0 G yX4_longest [Cond.code yX4_longest cX4_longest 3 (some .int)] rmc_X4_longest [rv R.1, iv t, iv p] w (fun v w' => ∃ (z : Int) (T : Int), v = some (iv z) ∧ rS G w' R (rT S T) ∧ fr (rP R S.1) w w' ∧ ((T = 1 ∧ ¬ ((0 ≤ t ∧ t < 3) ∧ 0 ≤ p ∧ p < S.2.1 t)) ∨ (T = 0 ∧ ((0 ≤ t ∧ t < 3) ∧ 0 ≤ p ∧ p < S.2.1 t) ∧ (z = lon (S.2.1 t) (S.2.2.1 t) p)))) (noX) := by
  refine g_of h0 htr (by decide +kernel) (Nat.le_of_ble_eq_true rfl) ?_
  intro b Z0 E
  have Z : gAm b l s0 G cX4_longest RX4 3 rmc_X4_longest := Z0
  refine x_el (L' := [(0, rv R.1), (1, iv t), (2, iv p)]) rfl ?_
  obtain ⟨hr1, hr2, ⟨f3, hr3, hf3⟩, hr4, hr5, hr6⟩ := id hS
  have hf0 : fr (rP R S.1) w w := fr.rf
  have join15 : ∀ (c1 : Bool), (c1 = true ↔ ¬ ((0 ≤ t ∧ t < 3) ∧ 0 ≤ p ∧ p < S.2.1 t)) → gX b s0 G (0) (0) 15 [(0, rv R.1), (1, iv t), (2, iv p)] [iv (b2 c1), rv R.1] (w) := by
    intro c1 hv
    have hc1 := hv
    refine x_callV (ci := 5) (C := RX4) (T := TX4) (N := 7) Z okX4_isThrown_ q1106 q1108 q15 rfl dX4_longest_15 (c_X4_isThrown_ h0 htr hS) hS.1 ⟨Nat.le_of_ble_eq_true rfl, Nat.le_of_ble_eq_true rfl, Nat.le_of_ble_eq_true rfl, Nat.le_of_ble_eq_true rfl⟩ rfl rfl (Nat.le_of_ble_eq_true rfl) (fun v9 w9 hR => ?_)
    obtain ⟨rfl, hS, hf9⟩ := hR
    have hf0 := hf0.tr hf9
    simp only [Option.toList_some, Option.toList_none, List.cons_append, List.nil_append]
    refine x_ifb_eq Z 25 dX4_longest_18 (by decide) (fun c18 => ?_) (fun c18 => ?_)
    ·
      have ea := c18
      have o1 := bq_n hc1 ea
      subst ea
      obtain ⟨hr1, hr2, ⟨f3, hr3, hf3⟩, hr4, hr5, hr6⟩ := id hS
      obtain ⟨hrt, hn0, hn30, hC⟩ := hr5 t (by omega) (by omega)
      try dsimp only [rT] at hr1 hf3 hr4 hr5 hr6
      try dsimp only [rT] at hrt hn0 hn30 hC
      have en : (rT S (th2 false false)).2.1 t = S.2.1 t := rfl
      refine x_aload_n Z dX4_longest_25 rfl rfl ?_
      refine x_iload_n Z dX4_longest_26 rfl rfl ?_
      refine x_iload_n Z dX4_longest_27 rfl rfl ?_
      refine x_callV (ci := 5) (C := RX4) (T := TX4) (N := 7) Z okX4_longestOf q1175 q1177 q20 rfl dX4_longest_28 (c_X4_longestOf h0 htr hS (by omega) (by omega) (by omega) (by omega)) hS.1 ⟨Nat.le_of_ble_eq_true rfl, Nat.le_of_ble_eq_true rfl, Nat.le_of_ble_eq_true rfl, Nat.le_of_ble_eq_true rfl⟩ rfl rfl (Nat.le_of_ble_eq_true rfl) (fun v9 w9 hR => ?_)
      obtain ⟨rfl, e9⟩ := hR
      refine x_ew e9 ?_
      simp only [Option.toList_some, Option.toList_none, List.cons_append, List.nil_append]
      exact x_iret Z E (by first | exact ⟨_, _, rfl, hS, hf0, Or.inl ⟨by rw [hbad]; rfl, hc1.mp hbad⟩⟩ | exact ⟨_, _, rfl, hS, hf0, Or.inr ⟨rfl, o1, rfl⟩⟩) dX4_longest_31 (Nat.le_of_ble_eq_true rfl) (Nat.le_of_ble_eq_true rfl)
    ·
      have hbad := c18
      refine x_iconst Z dX4_longest_21 ?_
      refine x_goto Z 31 dX4_longest_22 (by decide) ?_
      exact x_iret Z E (by first | exact ⟨_, _, rfl, hS, hf0, Or.inl ⟨by rw [hbad]; rfl, hc1.mp hbad⟩⟩ | exact ⟨_, _, rfl, hS, hf0, Or.inr ⟨rfl, o1, rfl⟩⟩) dX4_longest_31 (Nat.le_of_ble_eq_true rfl) (Nat.le_of_ble_eq_true rfl)
  refine x_aload_n Z dX4_longest_0 rfl rfl ?_
  refine x_aload_n Z dX4_longest_1 rfl rfl ?_
  refine x_iload_n Z dX4_longest_2 rfl rfl ?_
  refine x_iload_n Z dX4_longest_3 rfl rfl ?_
  refine x_callV (ci := 5) (C := RX4) (T := TX4) (N := 7) Z okX4_isPlace q1097 q1099 q14 rfl dX4_longest_4 (c_X4_isPlace h0 htr hS (by assumption) (by assumption)) hS.1 ⟨Nat.le_of_ble_eq_true rfl, Nat.le_of_ble_eq_true rfl, Nat.le_of_ble_eq_true rfl, Nat.le_of_ble_eq_true rfl⟩ rfl rfl (Nat.le_of_ble_eq_true rfl) (fun v9 w9 hR => ?_)
  obtain ⟨o9, rfl, e9, hq⟩ := hR
  refine x_ew e9 ?_
  simp only [Option.toList_some, Option.toList_none, List.cons_append, List.nil_append]
  refine x_ifb_ne Z 14 dX4_longest_7 (by decide) (fun c7 => ?_) (fun c7 => ?_)
  ·
    have f7 := bq_t hq c7
    refine x_ib false Z dX4_longest_14 (by decide) ?_
    exact join15 _ (by first | exact ⟨fun _ => by omega, fun _ => rfl⟩ | exact ⟨fun h => absurd h (by decide), fun h => (h (by omega)).elim⟩)
  ·
    have f7 := bq_f hq c7
    refine x_ib true Z dX4_longest_10 (by decide) ?_
    refine x_goto Z 15 dX4_longest_11 (by decide) ?_
    exact join15 _ (by first | exact ⟨fun _ => by omega, fun _ => rfl⟩ | exact ⟨fun h => absurd h (by decide), fun h => (h (by omega)).elim⟩)
abbrev rmc_X4_pieces : Room := { frames := 7, cells := 0, slots := 0, locals := 160 }
set_option maxRecDepth 100000 in
theorem c_X4_pieces {l : Launch} {s0 : State} {G : gK} {w : wd} (h0 : gS0 s0) (htr : l.stackTraces = false) {R : rA} {S : rM} {t : Int} (hS : rS G w R S) (hit : inr t) : gM l s0 G yX4_pieces [Cond.code yX4_pieces cX4_pieces 2 (some .int)] rmc_X4_pieces [rv R.1, iv t] w (fun v w' => ∃ (z : Int) (T : Int), v = some (iv z) ∧ rS G w' R (rT S T) ∧ fr (rP R S.1) w w' ∧ ((T = 1 ∧ ¬ (0 ≤ t ∧ t < 3)) ∨ (T = 0 ∧ (0 ≤ t ∧ t < 3) ∧ (∃ h : Nat, plN (S.2.1 t) (S.2.2.1 t) h ∧ z = (h : Int))))) (noX) := by
  refine g_of h0 htr (by decide +kernel) (Nat.le_of_ble_eq_true rfl) ?_
  intro b Z0 E
  have Z : gAm b l s0 G cX4_pieces RX4 2 rmc_X4_pieces := Z0
  refine x_el (L' := [(0, rv R.1), (1, iv t)]) rfl ?_
  obtain ⟨hr1, hr2, ⟨f3, hr3, hf3⟩, hr4, hr5, hr6⟩ := id hS
  have hf0 : fr (rP R S.1) w w := fr.rf
  have join13 : ∀ (c1 : Bool), (c1 = true ↔ ¬ (0 ≤ t ∧ t < 3)) → gX b s0 G (0) (0) 13 [(0, rv R.1), (1, iv t)] [iv (b2 c1), rv R.1] (w) := by
    intro c1 hv
    have hc1 := hv
    refine x_callV (ci := 5) (C := RX4) (T := TX4) (N := 7) Z okX4_isThrown_ q1106 q1108 q15 rfl dX4_pieces_13 (c_X4_isThrown_ h0 htr hS) hS.1 ⟨Nat.le_of_ble_eq_true rfl, Nat.le_of_ble_eq_true rfl, Nat.le_of_ble_eq_true rfl, Nat.le_of_ble_eq_true rfl⟩ rfl rfl (Nat.le_of_ble_eq_true rfl) (fun v9 w9 hR => ?_)
    obtain ⟨rfl, hS, hf9⟩ := hR
    have hf0 := hf0.tr hf9
    simp only [Option.toList_some, Option.toList_none, List.cons_append, List.nil_append]
    refine x_ifb_eq Z 23 dX4_pieces_16 (by decide) (fun c16 => ?_) (fun c16 => ?_)
    ·
      have ea := c16
      have o1 := bq_n hc1 ea
      subst ea
      obtain ⟨hr1, hr2, ⟨f3, hr3, hf3⟩, hr4, hr5, hr6⟩ := id hS
      obtain ⟨hrt, hn0, hn30, hC⟩ := hr5 t (by omega) (by omega)
      try dsimp only [rT] at hr1 hf3 hr4 hr5 hr6
      try dsimp only [rT] at hrt hn0 hn30 hC
      have en : (rT S (th2 false false)).2.1 t = S.2.1 t := rfl
      refine x_aload_n Z dX4_pieces_23 rfl rfl ?_
      refine x_iload_n Z dX4_pieces_24 rfl rfl ?_
      refine x_callV (ci := 5) (C := RX4) (T := TX4) (N := 7) Z okX4_piecesOf q1325 q1327 q28 rfl dX4_pieces_25 (c_X4_piecesOf h0 htr hS (by omega) (by omega)) hS.1 ⟨Nat.le_of_ble_eq_true rfl, Nat.le_of_ble_eq_true rfl, Nat.le_of_ble_eq_true rfl, Nat.le_of_ble_eq_true rfl⟩ rfl rfl (Nat.le_of_ble_eq_true rfl) (fun v9 w9 hR => ?_)
      obtain ⟨z, rfl, e9, hz, hzp⟩ := hR
      refine x_ew e9 ?_
      simp only [Option.toList_some, Option.toList_none, List.cons_append, List.nil_append]
      exact x_iret Z E (by first | exact ⟨_, _, rfl, hS, hf0, Or.inl ⟨by rw [hbad]; rfl, hc1.mp hbad⟩⟩ | exact ⟨_, _, rfl, hS, hf0, Or.inr ⟨rfl, o1, hzp⟩⟩) dX4_pieces_28 (Nat.le_of_ble_eq_true rfl) (Nat.le_of_ble_eq_true rfl)
    ·
      have hbad := c16
      refine x_iconst Z dX4_pieces_19 ?_
      refine x_goto Z 28 dX4_pieces_20 (by decide) ?_
      exact x_iret Z E (by first | exact ⟨_, _, rfl, hS, hf0, Or.inl ⟨by rw [hbad]; rfl, hc1.mp hbad⟩⟩ | exact ⟨_, _, rfl, hS, hf0, Or.inr ⟨rfl, o1, hzp⟩⟩) dX4_pieces_28 (Nat.le_of_ble_eq_true rfl) (Nat.le_of_ble_eq_true rfl)
  refine x_aload_n Z dX4_pieces_0 rfl rfl ?_
  refine x_iload_n Z dX4_pieces_1 rfl rfl ?_
  refine x_callS Z okX4_is q1071 q1072 dX4_pieces_2 (c_X4_is h0 htr (by assumption)) ⟨Nat.le_of_ble_eq_true rfl, Nat.le_of_ble_eq_true rfl, Nat.le_of_ble_eq_true rfl, Nat.le_of_ble_eq_true rfl⟩ rfl rfl (Nat.le_of_ble_eq_true rfl) (fun v9 w9 hR => ?_)
  obtain ⟨o9, rfl, e9, hq⟩ := hR
  refine x_ew e9 ?_
  simp only [Option.toList_some, Option.toList_none, List.cons_append, List.nil_append]
  refine x_ifb_ne Z 12 dX4_pieces_5 (by decide) (fun c5 => ?_) (fun c5 => ?_)
  ·
    have f5 := bq_t hq c5
    refine x_ib false Z dX4_pieces_12 (by decide) ?_
    exact join13 _ (by first | exact ⟨fun _ => by omega, fun _ => rfl⟩ | exact ⟨fun h => absurd h (by decide), fun h => (h (by omega)).elim⟩)
  ·
    have f5 := bq_f hq c5
    refine x_ib true Z dX4_pieces_8 (by decide) ?_
    refine x_goto Z 13 dX4_pieces_9 (by decide) ?_
    exact join13 _ (by first | exact ⟨fun _ => by omega, fun _ => rfl⟩ | exact ⟨fun h => absurd h (by decide), fun h => (h (by omega)).elim⟩)
abbrev rmc_X4_cuts : Room := { frames := 7, cells := 0, slots := 0, locals := 160 }
set_option maxRecDepth 100000 in
theorem c_X4_cuts {l : Launch} {s0 : State} {G : gK} {w : wd} (h0 : gS0 s0) (htr : l.stackTraces = false) {R : rA} {S : rM} {t : Int} (hS : rS G w R S) (hit : inr t) : gM l s0 G yX4_cuts [Cond.code yX4_cuts cX4_cuts 2 (some .int)] rmc_X4_cuts [rv R.1, iv t] w (fun v w' => ∃ (z : Int) (T : Int), v = some (iv z) ∧ rS G w' R (rT S T) ∧ fr (rP R S.1) w w' ∧ ((T = 1 ∧ ¬ (0 ≤ t ∧ t < 3)) ∨ (T = 0 ∧ (0 ≤ t ∧ t < 3) ∧ (inr z ∧ ∃ h : Nat, plN (S.2.1 t) (S.2.2.1 t) h ∧ plM (S.2.1 t) (S.2.2.1 t) h z)))) (noX) := by
  refine g_of h0 htr (by decide +kernel) (Nat.le_of_ble_eq_true rfl) ?_
  intro b Z0 E
  have Z : gAm b l s0 G cX4_cuts RX4 2 rmc_X4_cuts := Z0
  refine x_el (L' := [(0, rv R.1), (1, iv t)]) rfl ?_
  obtain ⟨hr1, hr2, ⟨f3, hr3, hf3⟩, hr4, hr5, hr6⟩ := id hS
  have hf0 : fr (rP R S.1) w w := fr.rf
  have join13 : ∀ (c1 : Bool), (c1 = true ↔ ¬ (0 ≤ t ∧ t < 3)) → gX b s0 G (0) (0) 13 [(0, rv R.1), (1, iv t)] [iv (b2 c1), rv R.1] (w) := by
    intro c1 hv
    have hc1 := hv
    refine x_callV (ci := 5) (C := RX4) (T := TX4) (N := 7) Z okX4_isThrown_ q1106 q1108 q15 rfl dX4_cuts_13 (c_X4_isThrown_ h0 htr hS) hS.1 ⟨Nat.le_of_ble_eq_true rfl, Nat.le_of_ble_eq_true rfl, Nat.le_of_ble_eq_true rfl, Nat.le_of_ble_eq_true rfl⟩ rfl rfl (Nat.le_of_ble_eq_true rfl) (fun v9 w9 hR => ?_)
    obtain ⟨rfl, hS, hf9⟩ := hR
    have hf0 := hf0.tr hf9
    simp only [Option.toList_some, Option.toList_none, List.cons_append, List.nil_append]
    refine x_ifb_eq Z 23 dX4_cuts_16 (by decide) (fun c16 => ?_) (fun c16 => ?_)
    ·
      have ea := c16
      have o1 := bq_n hc1 ea
      subst ea
      obtain ⟨hr1, hr2, ⟨f3, hr3, hf3⟩, hr4, hr5, hr6⟩ := id hS
      obtain ⟨hrt, hn0, hn30, hC⟩ := hr5 t (by omega) (by omega)
      try dsimp only [rT] at hr1 hf3 hr4 hr5 hr6
      try dsimp only [rT] at hrt hn0 hn30 hC
      have en : (rT S (th2 false false)).2.1 t = S.2.1 t := rfl
      refine x_aload_n Z dX4_cuts_23 rfl rfl ?_
      refine x_iload_n Z dX4_cuts_24 rfl rfl ?_
      refine x_callV (ci := 5) (C := RX4) (T := TX4) (N := 7) Z okX4_cutsOf q1341 q1343 q29 rfl dX4_cuts_25 (c_X4_cutsOf h0 htr hS (by omega) (by omega)) hS.1 ⟨Nat.le_of_ble_eq_true rfl, Nat.le_of_ble_eq_true rfl, Nat.le_of_ble_eq_true rfl, Nat.le_of_ble_eq_true rfl⟩ rfl rfl (Nat.le_of_ble_eq_true rfl) (fun v9 w9 hR => ?_)
      obtain ⟨z, rfl, e9, hz, hzp⟩ := hR
      refine x_ew e9 ?_
      simp only [Option.toList_some, Option.toList_none, List.cons_append, List.nil_append]
      exact x_iret Z E (by first | exact ⟨_, _, rfl, hS, hf0, Or.inl ⟨by rw [hbad]; rfl, hc1.mp hbad⟩⟩ | exact ⟨_, _, rfl, hS, hf0, Or.inr ⟨rfl, o1, ⟨hz, hzp⟩⟩⟩) dX4_cuts_28 (Nat.le_of_ble_eq_true rfl) (Nat.le_of_ble_eq_true rfl)
    ·
      have hbad := c16
      refine x_iconst Z dX4_cuts_19 ?_
      refine x_goto Z 28 dX4_cuts_20 (by decide) ?_
      exact x_iret Z E (by first | exact ⟨_, _, rfl, hS, hf0, Or.inl ⟨by rw [hbad]; rfl, hc1.mp hbad⟩⟩ | exact ⟨_, _, rfl, hS, hf0, Or.inr ⟨rfl, o1, ⟨hz, hzp⟩⟩⟩) dX4_cuts_28 (Nat.le_of_ble_eq_true rfl) (Nat.le_of_ble_eq_true rfl)
  refine x_aload_n Z dX4_cuts_0 rfl rfl ?_
  refine x_iload_n Z dX4_cuts_1 rfl rfl ?_
  refine x_callS Z okX4_is q1071 q1072 dX4_cuts_2 (c_X4_is h0 htr (by assumption)) ⟨Nat.le_of_ble_eq_true rfl, Nat.le_of_ble_eq_true rfl, Nat.le_of_ble_eq_true rfl, Nat.le_of_ble_eq_true rfl⟩ rfl rfl (Nat.le_of_ble_eq_true rfl) (fun v9 w9 hR => ?_)
  obtain ⟨o9, rfl, e9, hq⟩ := hR
  refine x_ew e9 ?_
  simp only [Option.toList_some, Option.toList_none, List.cons_append, List.nil_append]
  refine x_ifb_ne Z 12 dX4_cuts_5 (by decide) (fun c5 => ?_) (fun c5 => ?_)
  ·
    have f5 := bq_t hq c5
    refine x_ib false Z dX4_cuts_12 (by decide) ?_
    exact join13 _ (by first | exact ⟨fun _ => by omega, fun _ => rfl⟩ | exact ⟨fun h => absurd h (by decide), fun h => (h (by omega)).elim⟩)
  ·
    have f5 := bq_f hq c5
    refine x_ib true Z dX4_cuts_8 (by decide) ?_
    refine x_goto Z 13 dX4_cuts_9 (by decide) ?_
    exact join13 _ (by first | exact ⟨fun _ => by omega, fun _ => rfl⟩ | exact ⟨fun h => absurd h (by decide), fun h => (h (by omega)).elim⟩)
abbrev rmc_X4_back : Room := { frames := 6, cells := 0, slots := 0, locals := 138 }
set_option maxRecDepth 100000 in
theorem c_X4_back {l : Launch} {s0 : State} {G : gK} {w : wd} (h0 : gS0 s0) (htr : l.stackTraces = false) {R : rA} {S : rM} {t : Int} (hS : rS G w R S) (hit : inr t) : gM l s0 G yX4_back [Cond.code yX4_back cX4_back 2 (some .int)] rmc_X4_back [rv R.1, iv t] w (fun v w' => ∃ (z : Int) (T : Int), v = some (iv z) ∧ rS G w' R (rT S T) ∧ fr (rP R S.1) w w' ∧ ((T = 1 ∧ ¬ (0 ≤ t ∧ t < 3)) ∨ (T = 0 ∧ (0 ≤ t ∧ t < 3) ∧ (inr z ∧ ∃ h : Nat, bkM (S.2.1 t) (S.2.2.1 t) false h z ∧ bkc (S.2.1 t) (S.2.2.1 t) h = 0)))) (noX) := by
  refine g_of h0 htr (by decide +kernel) (Nat.le_of_ble_eq_true rfl) ?_
  intro b Z0 E
  have Z : gAm b l s0 G cX4_back RX4 2 rmc_X4_back := Z0
  refine x_el (L' := [(0, rv R.1), (1, iv t)]) rfl ?_
  obtain ⟨hr1, hr2, ⟨f3, hr3, hf3⟩, hr4, hr5, hr6⟩ := id hS
  have hf0 : fr (rP R S.1) w w := fr.rf
  have join13 : ∀ (c1 : Bool), (c1 = true ↔ ¬ (0 ≤ t ∧ t < 3)) → gX b s0 G (0) (0) 13 [(0, rv R.1), (1, iv t)] [iv (b2 c1), rv R.1] (w) := by
    intro c1 hv
    have hc1 := hv
    refine x_callV (ci := 5) (C := RX4) (T := TX4) (N := 7) Z okX4_isThrown_ q1106 q1108 q15 rfl dX4_back_13 (c_X4_isThrown_ h0 htr hS) hS.1 ⟨Nat.le_of_ble_eq_true rfl, Nat.le_of_ble_eq_true rfl, Nat.le_of_ble_eq_true rfl, Nat.le_of_ble_eq_true rfl⟩ rfl rfl (Nat.le_of_ble_eq_true rfl) (fun v9 w9 hR => ?_)
    obtain ⟨rfl, hS, hf9⟩ := hR
    have hf0 := hf0.tr hf9
    simp only [Option.toList_some, Option.toList_none, List.cons_append, List.nil_append]
    refine x_ifb_eq Z 23 dX4_back_16 (by decide) (fun c16 => ?_) (fun c16 => ?_)
    ·
      have ea := c16
      have o1 := bq_n hc1 ea
      subst ea
      obtain ⟨hr1, hr2, ⟨f3, hr3, hf3⟩, hr4, hr5, hr6⟩ := id hS
      obtain ⟨hrt, hn0, hn30, hC⟩ := hr5 t (by omega) (by omega)
      try dsimp only [rT] at hr1 hf3 hr4 hr5 hr6
      try dsimp only [rT] at hrt hn0 hn30 hC
      have en : (rT S (th2 false false)).2.1 t = S.2.1 t := rfl
      refine x_aload_n Z dX4_back_23 rfl rfl ?_
      refine x_iload_n Z dX4_back_24 rfl rfl ?_
      refine x_callV (ci := 5) (C := RX4) (T := TX4) (N := 7) Z okX4_backOf q1349 q1351 q30 rfl dX4_back_25 (c_X4_backOf h0 htr hS (by omega) (by omega)) hS.1 ⟨Nat.le_of_ble_eq_true rfl, Nat.le_of_ble_eq_true rfl, Nat.le_of_ble_eq_true rfl, Nat.le_of_ble_eq_true rfl⟩ rfl rfl (Nat.le_of_ble_eq_true rfl) (fun v9 w9 hR => ?_)
      obtain ⟨z, rfl, e9, hz, hzp⟩ := hR
      refine x_ew e9 ?_
      simp only [Option.toList_some, Option.toList_none, List.cons_append, List.nil_append]
      exact x_iret Z E (by first | exact ⟨_, _, rfl, hS, hf0, Or.inl ⟨by rw [hbad]; rfl, hc1.mp hbad⟩⟩ | exact ⟨_, _, rfl, hS, hf0, Or.inr ⟨rfl, o1, ⟨hz, hzp⟩⟩⟩) dX4_back_28 (Nat.le_of_ble_eq_true rfl) (Nat.le_of_ble_eq_true rfl)
    ·
      have hbad := c16
      refine x_iconst Z dX4_back_19 ?_
      refine x_goto Z 28 dX4_back_20 (by decide) ?_
      exact x_iret Z E (by first | exact ⟨_, _, rfl, hS, hf0, Or.inl ⟨by rw [hbad]; rfl, hc1.mp hbad⟩⟩ | exact ⟨_, _, rfl, hS, hf0, Or.inr ⟨rfl, o1, ⟨hz, hzp⟩⟩⟩) dX4_back_28 (Nat.le_of_ble_eq_true rfl) (Nat.le_of_ble_eq_true rfl)
  refine x_aload_n Z dX4_back_0 rfl rfl ?_
  refine x_iload_n Z dX4_back_1 rfl rfl ?_
  refine x_callS Z okX4_is q1071 q1072 dX4_back_2 (c_X4_is h0 htr (by assumption)) ⟨Nat.le_of_ble_eq_true rfl, Nat.le_of_ble_eq_true rfl, Nat.le_of_ble_eq_true rfl, Nat.le_of_ble_eq_true rfl⟩ rfl rfl (Nat.le_of_ble_eq_true rfl) (fun v9 w9 hR => ?_)
  obtain ⟨o9, rfl, e9, hq⟩ := hR
  refine x_ew e9 ?_
  simp only [Option.toList_some, Option.toList_none, List.cons_append, List.nil_append]
  refine x_ifb_ne Z 12 dX4_back_5 (by decide) (fun c5 => ?_) (fun c5 => ?_)
  ·
    have f5 := bq_t hq c5
    refine x_ib false Z dX4_back_12 (by decide) ?_
    exact join13 _ (by first | exact ⟨fun _ => by omega, fun _ => rfl⟩ | exact ⟨fun h => absurd h (by decide), fun h => (h (by omega)).elim⟩)
  ·
    have f5 := bq_f hq c5
    refine x_ib true Z dX4_back_8 (by decide) ?_
    refine x_goto Z 13 dX4_back_9 (by decide) ?_
    exact join13 _ (by first | exact ⟨fun _ => by omega, fun _ => rfl⟩ | exact ⟨fun h => absurd h (by decide), fun h => (h (by omega)).elim⟩)
abbrev rmc_X4_fewest : Room := { frames := 6, cells := 1, slots := 31, locals := 138 }
set_option maxRecDepth 100000 in
theorem c_X4_fewest {l : Launch} {s0 : State} {G : gK} {w : wd} (h0 : gS0 s0) (htr : l.stackTraces = false) {R : rA} {S : rM} {t : Int} (hS : rS G w R S) (hit : inr t) : gM l s0 G yX4_fewest [Cond.code yX4_fewest cX4_fewest 2 (some .int)] rmc_X4_fewest [rv R.1, iv t] w (fun v w' => ∃ (z : Int) (T : Int), v = some (iv z) ∧ rS G w' R (rT S T) ∧ fr (rP R S.1) w w' ∧ ((T = 1 ∧ ¬ (0 ≤ t ∧ t < 3)) ∨ (T = 0 ∧ (0 ≤ t ∧ t < 3) ∧ (∃ B9 : Int → Int, fwP (S.2.1 t) (S.2.2.1 t) B9 ∧ z = B9 (S.2.1 t))))) (noX) := by
  refine g_of h0 htr (by decide +kernel) (Nat.le_of_ble_eq_true rfl) ?_
  intro b Z0 E
  have Z : gAm b l s0 G cX4_fewest RX4 2 rmc_X4_fewest := Z0
  refine x_el (L' := [(0, rv R.1), (1, iv t)]) rfl ?_
  obtain ⟨hr1, hr2, ⟨f3, hr3, hf3⟩, hr4, hr5, hr6⟩ := id hS
  have hf0 : fr (rP R S.1) w w := fr.rf
  have join13 : ∀ (c1 : Bool), (c1 = true ↔ ¬ (0 ≤ t ∧ t < 3)) → gX b s0 G (0) (0) 13 [(0, rv R.1), (1, iv t)] [iv (b2 c1), rv R.1] (w) := by
    intro c1 hv
    have hc1 := hv
    refine x_callV (ci := 5) (C := RX4) (T := TX4) (N := 7) Z okX4_isThrown_ q1106 q1108 q15 rfl dX4_fewest_13 (c_X4_isThrown_ h0 htr hS) hS.1 ⟨Nat.le_of_ble_eq_true rfl, Nat.le_of_ble_eq_true rfl, Nat.le_of_ble_eq_true rfl, Nat.le_of_ble_eq_true rfl⟩ rfl rfl (Nat.le_of_ble_eq_true rfl) (fun v9 w9 hR => ?_)
    obtain ⟨rfl, hS, hf9⟩ := hR
    have hf0 := hf0.tr hf9
    simp only [Option.toList_some, Option.toList_none, List.cons_append, List.nil_append]
    refine x_ifb_eq Z 23 dX4_fewest_16 (by decide) (fun c16 => ?_) (fun c16 => ?_)
    ·
      have ea := c16
      have o1 := bq_n hc1 ea
      subst ea
      obtain ⟨hr1, hr2, ⟨f3, hr3, hf3⟩, hr4, hr5, hr6⟩ := id hS
      obtain ⟨hrt, hn0, hn30, hC⟩ := hr5 t (by omega) (by omega)
      try dsimp only [rT] at hr1 hf3 hr4 hr5 hr6
      try dsimp only [rT] at hrt hn0 hn30 hC
      have en : (rT S (th2 false false)).2.1 t = S.2.1 t := rfl
      refine x_aload_n Z dX4_fewest_23 rfl rfl ?_
      refine x_iload_n Z dX4_fewest_24 rfl rfl ?_
      refine x_callV (ci := 5) (C := RX4) (T := TX4) (N := 7) Z okX4_fewestOf q1357 q1359 q31 rfl dX4_fewest_25 (c_X4_fewestOf h0 htr hS (by omega) (by omega)) hS.1 ⟨Nat.le_of_ble_eq_true rfl, Nat.le_of_ble_eq_true rfl, Nat.le_of_ble_eq_true rfl, Nat.le_of_ble_eq_true rfl⟩ rfl rfl (Nat.le_of_ble_eq_true rfl) (fun v9 w9 hR => ?_)
      obtain ⟨z, rfl, e9, hz, hzp⟩ := hR
      refine x_ew e9 ?_
      simp only [Option.toList_some, Option.toList_none, List.cons_append, List.nil_append]
      exact x_iret Z E (by first | exact ⟨_, _, rfl, hS, hf0, Or.inl ⟨by rw [hbad]; rfl, hc1.mp hbad⟩⟩ | exact ⟨_, _, rfl, hS, hf0, Or.inr ⟨rfl, o1, hzp⟩⟩) dX4_fewest_28 (Nat.le_of_ble_eq_true rfl) (Nat.le_of_ble_eq_true rfl)
    ·
      have hbad := c16
      refine x_iconst Z dX4_fewest_19 ?_
      refine x_goto Z 28 dX4_fewest_20 (by decide) ?_
      exact x_iret Z E (by first | exact ⟨_, _, rfl, hS, hf0, Or.inl ⟨by rw [hbad]; rfl, hc1.mp hbad⟩⟩ | exact ⟨_, _, rfl, hS, hf0, Or.inr ⟨rfl, o1, hzp⟩⟩) dX4_fewest_28 (Nat.le_of_ble_eq_true rfl) (Nat.le_of_ble_eq_true rfl)
  refine x_aload_n Z dX4_fewest_0 rfl rfl ?_
  refine x_iload_n Z dX4_fewest_1 rfl rfl ?_
  refine x_callS Z okX4_is q1071 q1072 dX4_fewest_2 (c_X4_is h0 htr (by assumption)) ⟨Nat.le_of_ble_eq_true rfl, Nat.le_of_ble_eq_true rfl, Nat.le_of_ble_eq_true rfl, Nat.le_of_ble_eq_true rfl⟩ rfl rfl (Nat.le_of_ble_eq_true rfl) (fun v9 w9 hR => ?_)
  obtain ⟨o9, rfl, e9, hq⟩ := hR
  refine x_ew e9 ?_
  simp only [Option.toList_some, Option.toList_none, List.cons_append, List.nil_append]
  refine x_ifb_ne Z 12 dX4_fewest_5 (by decide) (fun c5 => ?_) (fun c5 => ?_)
  ·
    have f5 := bq_t hq c5
    refine x_ib false Z dX4_fewest_12 (by decide) ?_
    exact join13 _ (by first | exact ⟨fun _ => by omega, fun _ => rfl⟩ | exact ⟨fun h => absurd h (by decide), fun h => (h (by omega)).elim⟩)
  ·
    have f5 := bq_f hq c5
    refine x_ib true Z dX4_fewest_8 (by decide) ?_
    refine x_goto Z 13 dX4_fewest_9 (by decide) ?_
    exact join13 _ (by first | exact ⟨fun _ => by omega, fun _ => rfl⟩ | exact ⟨fun h => absurd h (by decide), fun h => (h (by omega)).elim⟩)
abbrev rmc_X4_piece : Room := { frames := 7, cells := 0, slots := 0, locals := 161 }
set_option maxRecDepth 100000 in
theorem c_X4_piece {l : Launch} {s0 : State} {G : gK} {w : wd} (h0 : gS0 s0) (htr : l.stackTraces = false) {R : rA} {S : rM} {t : Int} {m : Int} {p : Int} (hS : rS G w R S) (hit : inr t) (him : inr m) (hip : inr p) : gM l s0 G yX4_piece [Cond.code yX4_piece cX4_piece 6 (some .int)] rmc_X4_piece [rv R.1, iv t, iv m, iv p] w (fun v w' => ∃ (z : Int) (T : Int), v = some (iv z) ∧ rS G w' R (rT S T) ∧ fr (rP R S.1) w w' ∧ ((T = 1 ∧ ¬ ((0 ≤ t ∧ t < 3) ∧ 0 ≤ m ∧ 0 ≤ pbg (S.2.1 t) (S.2.2.1 t) m)) ∨ (T = 2 ∧ ((0 ≤ t ∧ t < 3) ∧ 0 ≤ m ∧ 0 ≤ pbg (S.2.1 t) (S.2.2.1 t) m) ∧ ¬ (0 ≤ p ∧ p ≤ 2)) ∨ (T = 0 ∧ ((0 ≤ t ∧ t < 3) ∧ 0 ≤ m ∧ 0 ≤ pbg (S.2.1 t) (S.2.2.1 t) m) ∧ (0 ≤ p ∧ p ≤ 2) ∧ (z = (if p = 0 then (pbg (S.2.1 t) (S.2.2.1 t) m) else if p = 1 then (lon (S.2.1 t) (S.2.2.1 t) (pbg (S.2.1 t) (S.2.2.1 t) m)) else sb (S.2.2.1 t (pbg (S.2.1 t) (S.2.2.1 t) m))))))) (noX) := by
  refine g_of h0 htr (by decide +kernel) (Nat.le_of_ble_eq_true rfl) ?_
  intro b Z0 E
  have Z : gAm b l s0 G cX4_piece RX4 6 rmc_X4_piece := Z0
  refine x_el (L' := [(0, rv R.1), (1, iv t), (2, iv m), (3, iv p)]) rfl ?_
  obtain ⟨hr1, hr2, ⟨f3, hr3, hf3⟩, hr4, hr5, hr6⟩ := id hS
  have hf0 : fr (rP R S.1) w w := fr.rf
  have join40 : ∀ (c1 c2 : Bool), ((c1 = true ↔ ¬ ((0 ≤ t ∧ t < 3) ∧ 0 ≤ m ∧ 0 ≤ pbg (S.2.1 t) (S.2.2.1 t) m)) ∧ (c2 = true ↔ ¬ (0 ≤ p ∧ p ≤ 2))) → gX b s0 G (0) (0) 40 [(0, rv R.1), (1, iv t), (2, iv m), (3, iv p)] [iv (b2 c2), iv (b2 c1), rv R.1] (w) := by
    intro c1 c2 hv
    obtain ⟨hc1, hc2⟩ := hv
    refine x_callV (ci := 5) (C := RX4) (T := TX4) (N := 7) Z okX4_isThrown q1077 q1079 q11 rfl dX4_piece_40 (c_X4_isThrown h0 htr hS) hS.1 ⟨Nat.le_of_ble_eq_true rfl, Nat.le_of_ble_eq_true rfl, Nat.le_of_ble_eq_true rfl, Nat.le_of_ble_eq_true rfl⟩ rfl rfl (Nat.le_of_ble_eq_true rfl) (fun v9 w9 hR => ?_)
    obtain ⟨rfl, hS, hf9⟩ := hR
    have hf0 := hf0.tr hf9
    simp only [Option.toList_some, Option.toList_none, List.cons_append, List.nil_append]
    refine x_ifb_eq Z 48 dX4_piece_43 (by decide) (fun c43 => ?_) (fun c43 => ?_)
    ·
      obtain ⟨ea, ec⟩ := bor_f c43
      have o1 := bq_n hc1 ea
      have o2 := bq_n hc2 ec
      subst ea
      subst ec
      obtain ⟨hr1, hr2, ⟨f3, hr3, hf3⟩, hr4, hr5, hr6⟩ := id hS
      obtain ⟨hrt, hn0, hn30, hC⟩ := hr5 t (by omega) (by omega)
      try dsimp only [rT] at hr1 hf3 hr4 hr5 hr6
      try dsimp only [rT] at hrt hn0 hn30 hC
      have en : (rT S (th2 false false)).2.1 t = S.2.1 t := rfl
      have hpb := pbg_in (n := S.2.1 t) (C := S.2.2.1 t) (k := m) (by omega)
      refine x_aload_n Z dX4_piece_48 rfl rfl ?_
      refine x_iload_n Z dX4_piece_49 rfl rfl ?_
      refine x_iload_n Z dX4_piece_50 rfl rfl ?_
      refine x_callV (ci := 5) (C := RX4) (T := TX4) (N := 7) Z okX4_begin q1171 q1173 q19 rfl dX4_piece_51 (c_X4_begin h0 htr hS (by omega) (by omega) (by omega) (by assumption)) hS.1 ⟨Nat.le_of_ble_eq_true rfl, Nat.le_of_ble_eq_true rfl, Nat.le_of_ble_eq_true rfl, Nat.le_of_ble_eq_true rfl⟩ rfl rfl (Nat.le_of_ble_eq_true rfl) (fun v9 w9 hR => ?_)
      obtain ⟨rfl, e9⟩ := hR
      refine x_ew e9 ?_
      simp only [Option.toList_some, Option.toList_none, List.cons_append, List.nil_append]
      refine x_istore (L' := [(4, _), (0, _), (1, _), (2, _), (3, _)]) Z dX4_piece_54 (Nat.le_of_ble_eq_true rfl) rfl ?_
      refine x_aload_n Z dX4_piece_56 rfl rfl ?_
      refine x_iload_n Z dX4_piece_57 rfl rfl ?_
      refine x_iload Z dX4_piece_58 rfl ?_
      refine x_callV (ci := 5) (C := RX4) (T := TX4) (N := 7) Z okX4_longestOf q1175 q1177 q20 rfl dX4_piece_60 (c_X4_longestOf h0 htr hS (by omega) (by omega) (by omega) (by omega)) hS.1 ⟨Nat.le_of_ble_eq_true rfl, Nat.le_of_ble_eq_true rfl, Nat.le_of_ble_eq_true rfl, Nat.le_of_ble_eq_true rfl⟩ rfl rfl (Nat.le_of_ble_eq_true rfl) (fun v9 w9 hR => ?_)
      obtain ⟨rfl, e9⟩ := hR
      refine x_ew e9 ?_
      simp only [Option.toList_some, Option.toList_none, List.cons_append, List.nil_append]
      refine x_istore (L' := [(5, _), (4, _), (0, _), (1, _), (2, _), (3, _)]) Z dX4_piece_63 (Nat.le_of_ble_eq_true rfl) rfl ?_
      refine x_iload_n Z dX4_piece_65 rfl rfl ?_
      refine x_if_ne Z 74 dX4_piece_66 (by decide) ⟨by omega, by omega⟩ (fun c66 => ?_) (fun c66 => ?_)
      ·
        refine x_iload_n Z dX4_piece_74 rfl rfl ?_
        refine x_iconst Z dX4_piece_75 ?_
        refine x_icmp_ne Z 84 dX4_piece_76 (by decide) ⟨by omega, by omega⟩ ⟨by omega, by omega⟩ (fun c76 => ?_) (fun c76 => ?_)
        ·
          have hlo := lon_in (n := S.2.1 t) (C := S.2.2.1 t) (p := pbg (S.2.1 t) (S.2.2.1 t) m) (by omega)
          refine x_aload_n Z dX4_piece_84 rfl rfl ?_
          refine x_iload_n Z dX4_piece_85 rfl rfl ?_
          refine x_iload Z dX4_piece_86 rfl ?_
          refine x_iload Z dX4_piece_88 rfl ?_
          refine x_iload Z dX4_piece_90 rfl ?_
          refine x_iadd Z dX4_piece_92 ?_
          refine x_callV (ci := 5) (C := RX4) (T := TX4) (N := 7) Z okX4_sortOf q1179 q1181 q21 rfl dX4_piece_93 (c_X4_sortOf h0 htr hS (by omega) (by omega) (by omega) (by omega) (by omega)) hS.1 ⟨Nat.le_of_ble_eq_true rfl, Nat.le_of_ble_eq_true rfl, Nat.le_of_ble_eq_true rfl, Nat.le_of_ble_eq_true rfl⟩ rfl rfl (Nat.le_of_ble_eq_true rfl) (fun v9 w9 hR => ?_)
          obtain ⟨rfl, e9⟩ := hR
          refine x_ew e9 ?_
          simp only [Option.toList_some, Option.toList_none, List.cons_append, List.nil_append]
          exact x_iret Z E (by first | exact ⟨_, _, rfl, hS, hf0, thr2 hbad hc1 hc2⟩ | exact ⟨_, _, rfl, hS, hf0, Or.inr (Or.inr ⟨rfl, o1, o2, by rw [if_pos c66]⟩)⟩ | exact ⟨_, _, rfl, hS, hf0, Or.inr (Or.inr ⟨rfl, o1, o2, by rw [if_neg c66, if_pos c76]⟩)⟩ | exact ⟨_, _, rfl, hS, hf0, Or.inr (Or.inr ⟨rfl, o1, o2, by rw [if_neg c66, if_neg c76]; unfold srt; rw [if_pos (by omega)]⟩)⟩) dX4_piece_96 (Nat.le_of_ble_eq_true rfl) (Nat.le_of_ble_eq_true rfl)
        ·
          refine x_iload Z dX4_piece_79 rfl ?_
          refine x_goto Z 96 dX4_piece_81 (by decide) ?_
          exact x_iret Z E (by first | exact ⟨_, _, rfl, hS, hf0, thr2 hbad hc1 hc2⟩ | exact ⟨_, _, rfl, hS, hf0, Or.inr (Or.inr ⟨rfl, o1, o2, by rw [if_pos c66]⟩)⟩ | exact ⟨_, _, rfl, hS, hf0, Or.inr (Or.inr ⟨rfl, o1, o2, by rw [if_neg c66, if_pos c76]⟩)⟩ | exact ⟨_, _, rfl, hS, hf0, Or.inr (Or.inr ⟨rfl, o1, o2, by rw [if_neg c66, if_neg c76]; unfold srt; rw [if_pos (by omega)]⟩)⟩) dX4_piece_96 (Nat.le_of_ble_eq_true rfl) (Nat.le_of_ble_eq_true rfl)
      ·
        refine x_iload Z dX4_piece_69 rfl ?_
        refine x_goto Z 96 dX4_piece_71 (by decide) ?_
        exact x_iret Z E (by first | exact ⟨_, _, rfl, hS, hf0, thr2 hbad hc1 hc2⟩ | exact ⟨_, _, rfl, hS, hf0, Or.inr (Or.inr ⟨rfl, o1, o2, by rw [if_pos c66]⟩)⟩ | exact ⟨_, _, rfl, hS, hf0, Or.inr (Or.inr ⟨rfl, o1, o2, by rw [if_neg c66, if_pos c76]⟩)⟩ | exact ⟨_, _, rfl, hS, hf0, Or.inr (Or.inr ⟨rfl, o1, o2, by rw [if_neg c66, if_neg c76]; unfold srt; rw [if_pos (by omega)]⟩)⟩) dX4_piece_96 (Nat.le_of_ble_eq_true rfl) (Nat.le_of_ble_eq_true rfl)
    ·
      have hbad := c43
      refine x_iconst Z dX4_piece_46 ?_
      exact x_iret Z E (by first | exact ⟨_, _, rfl, hS, hf0, thr2 hbad hc1 hc2⟩ | exact ⟨_, _, rfl, hS, hf0, Or.inr (Or.inr ⟨rfl, o1, o2, by rw [if_pos c66]⟩)⟩ | exact ⟨_, _, rfl, hS, hf0, Or.inr (Or.inr ⟨rfl, o1, o2, by rw [if_neg c66, if_pos c76]⟩)⟩ | exact ⟨_, _, rfl, hS, hf0, Or.inr (Or.inr ⟨rfl, o1, o2, by rw [if_neg c66, if_neg c76]; unfold srt; rw [if_pos (by omega)]⟩)⟩) dX4_piece_47 (Nat.le_of_ble_eq_true rfl) (Nat.le_of_ble_eq_true rfl)
  refine x_aload_n Z dX4_piece_0 rfl rfl ?_
  refine x_iload_n Z dX4_piece_1 rfl rfl ?_
  refine x_callS Z okX4_is q1071 q1072 dX4_piece_2 (c_X4_is h0 htr (by assumption)) ⟨Nat.le_of_ble_eq_true rfl, Nat.le_of_ble_eq_true rfl, Nat.le_of_ble_eq_true rfl, Nat.le_of_ble_eq_true rfl⟩ rfl rfl (Nat.le_of_ble_eq_true rfl) (fun v9 w9 hR => ?_)
  obtain ⟨o9, rfl, e9, hq⟩ := hR
  refine x_ew e9 ?_
  simp only [Option.toList_some, Option.toList_none, List.cons_append, List.nil_append]
  refine x_ifb_eq Z 21 dX4_piece_5 (by decide) (fun c5 => ?_) (fun c5 => ?_)
  ·
    have f5 := bq_f hq c5
    refine x_ib true Z dX4_piece_21 (by decide) ?_
    refine x_goto Z 26 dX4_piece_22 (by decide) ?_
    refine x_iload_n Z dX4_piece_26 rfl rfl ?_
    refine x_if_lt Z 35 dX4_piece_27 (by decide) ⟨by omega, by omega⟩ (fun c27 => ?_) (fun c27 => ?_)
    ·
      refine x_ib true Z dX4_piece_35 (by decide) ?_
      refine x_goto Z 40 dX4_piece_36 (by decide) ?_
      exact join40 _ _ ⟨(by first | exact ⟨fun _ => by omega, fun _ => rfl⟩ | exact ⟨fun h => absurd h (by decide), fun h => (h (by omega)).elim⟩), (by first | exact ⟨fun _ => by omega, fun _ => rfl⟩ | exact ⟨fun h => absurd h (by decide), fun h => (h (by omega)).elim⟩)⟩
    ·
      refine x_iload_n Z dX4_piece_30 rfl rfl ?_
      refine x_iconst Z dX4_piece_31 ?_
      refine x_icmp_le Z 39 dX4_piece_32 (by decide) ⟨by omega, by omega⟩ ⟨by omega, by omega⟩ (fun c32 => ?_) (fun c32 => ?_)
      ·
        refine x_ib false Z dX4_piece_39 (by decide) ?_
        exact join40 _ _ ⟨(by first | exact ⟨fun _ => by omega, fun _ => rfl⟩ | exact ⟨fun h => absurd h (by decide), fun h => (h (by omega)).elim⟩), (by first | exact ⟨fun _ => by omega, fun _ => rfl⟩ | exact ⟨fun h => absurd h (by decide), fun h => (h (by omega)).elim⟩)⟩
      ·
        refine x_ib true Z dX4_piece_35 (by decide) ?_
        refine x_goto Z 40 dX4_piece_36 (by decide) ?_
        exact join40 _ _ ⟨(by first | exact ⟨fun _ => by omega, fun _ => rfl⟩ | exact ⟨fun h => absurd h (by decide), fun h => (h (by omega)).elim⟩), (by first | exact ⟨fun _ => by omega, fun _ => rfl⟩ | exact ⟨fun h => absurd h (by decide), fun h => (h (by omega)).elim⟩)⟩
  ·
    have f5 := bq_t hq c5
    refine x_iload_n Z dX4_piece_8 rfl rfl ?_
    refine x_if_lt Z 21 dX4_piece_9 (by decide) ⟨by omega, by omega⟩ (fun c9 => ?_) (fun c9 => ?_)
    ·
      refine x_ib true Z dX4_piece_21 (by decide) ?_
      refine x_goto Z 26 dX4_piece_22 (by decide) ?_
      refine x_iload_n Z dX4_piece_26 rfl rfl ?_
      refine x_if_lt Z 35 dX4_piece_27 (by decide) ⟨by omega, by omega⟩ (fun c27 => ?_) (fun c27 => ?_)
      ·
        refine x_ib true Z dX4_piece_35 (by decide) ?_
        refine x_goto Z 40 dX4_piece_36 (by decide) ?_
        exact join40 _ _ ⟨(by first | exact ⟨fun _ => by omega, fun _ => rfl⟩ | exact ⟨fun h => absurd h (by decide), fun h => (h (by omega)).elim⟩), (by first | exact ⟨fun _ => by omega, fun _ => rfl⟩ | exact ⟨fun h => absurd h (by decide), fun h => (h (by omega)).elim⟩)⟩
      ·
        refine x_iload_n Z dX4_piece_30 rfl rfl ?_
        refine x_iconst Z dX4_piece_31 ?_
        refine x_icmp_le Z 39 dX4_piece_32 (by decide) ⟨by omega, by omega⟩ ⟨by omega, by omega⟩ (fun c32 => ?_) (fun c32 => ?_)
        ·
          refine x_ib false Z dX4_piece_39 (by decide) ?_
          exact join40 _ _ ⟨(by first | exact ⟨fun _ => by omega, fun _ => rfl⟩ | exact ⟨fun h => absurd h (by decide), fun h => (h (by omega)).elim⟩), (by first | exact ⟨fun _ => by omega, fun _ => rfl⟩ | exact ⟨fun h => absurd h (by decide), fun h => (h (by omega)).elim⟩)⟩
        ·
          refine x_ib true Z dX4_piece_35 (by decide) ?_
          refine x_goto Z 40 dX4_piece_36 (by decide) ?_
          exact join40 _ _ ⟨(by first | exact ⟨fun _ => by omega, fun _ => rfl⟩ | exact ⟨fun h => absurd h (by decide), fun h => (h (by omega)).elim⟩), (by first | exact ⟨fun _ => by omega, fun _ => rfl⟩ | exact ⟨fun h => absurd h (by decide), fun h => (h (by omega)).elim⟩)⟩
    ·
      have ⟨_, hn0, hn30, _⟩ := hr5 t (by omega) (by omega)
      refine x_aload_n Z dX4_piece_12 rfl rfl ?_
      refine x_iload_n Z dX4_piece_13 rfl rfl ?_
      refine x_iload_n Z dX4_piece_14 rfl rfl ?_
      refine x_callV (ci := 5) (C := RX4) (T := TX4) (N := 7) Z okX4_begin q1171 q1173 q19 rfl dX4_piece_15 (c_X4_begin h0 htr hS (by omega) (by omega) (by omega) (by assumption)) hS.1 ⟨Nat.le_of_ble_eq_true rfl, Nat.le_of_ble_eq_true rfl, Nat.le_of_ble_eq_true rfl, Nat.le_of_ble_eq_true rfl⟩ rfl rfl (Nat.le_of_ble_eq_true rfl) (fun v9 w9 hR => ?_)
      obtain ⟨rfl, e9⟩ := hR
      refine x_ew e9 ?_
      simp only [Option.toList_some, Option.toList_none, List.cons_append, List.nil_append]
      have hpb := pbg_in (n := S.2.1 t) (C := S.2.2.1 t) (k := m) (by omega)
      have hpc := plc_in (n := S.2.1 t) (C := S.2.2.1 t) (by omega) m.toNat
      refine x_if_ge Z 25 dX4_piece_18 (by decide) ⟨by omega, by omega⟩ (fun c18 => ?_) (fun c18 => ?_)
      ·
        refine x_ib false Z dX4_piece_25 (by decide) ?_
        refine x_iload_n Z dX4_piece_26 rfl rfl ?_
        refine x_if_lt Z 35 dX4_piece_27 (by decide) ⟨by omega, by omega⟩ (fun c27 => ?_) (fun c27 => ?_)
        ·
          refine x_ib true Z dX4_piece_35 (by decide) ?_
          refine x_goto Z 40 dX4_piece_36 (by decide) ?_
          exact join40 _ _ ⟨(by first | exact ⟨fun _ => by omega, fun _ => rfl⟩ | exact ⟨fun h => absurd h (by decide), fun h => (h (by omega)).elim⟩), (by first | exact ⟨fun _ => by omega, fun _ => rfl⟩ | exact ⟨fun h => absurd h (by decide), fun h => (h (by omega)).elim⟩)⟩
        ·
          refine x_iload_n Z dX4_piece_30 rfl rfl ?_
          refine x_iconst Z dX4_piece_31 ?_
          refine x_icmp_le Z 39 dX4_piece_32 (by decide) ⟨by omega, by omega⟩ ⟨by omega, by omega⟩ (fun c32 => ?_) (fun c32 => ?_)
          ·
            refine x_ib false Z dX4_piece_39 (by decide) ?_
            exact join40 _ _ ⟨(by first | exact ⟨fun _ => by omega, fun _ => rfl⟩ | exact ⟨fun h => absurd h (by decide), fun h => (h (by omega)).elim⟩), (by first | exact ⟨fun _ => by omega, fun _ => rfl⟩ | exact ⟨fun h => absurd h (by decide), fun h => (h (by omega)).elim⟩)⟩
          ·
            refine x_ib true Z dX4_piece_35 (by decide) ?_
            refine x_goto Z 40 dX4_piece_36 (by decide) ?_
            exact join40 _ _ ⟨(by first | exact ⟨fun _ => by omega, fun _ => rfl⟩ | exact ⟨fun h => absurd h (by decide), fun h => (h (by omega)).elim⟩), (by first | exact ⟨fun _ => by omega, fun _ => rfl⟩ | exact ⟨fun h => absurd h (by decide), fun h => (h (by omega)).elim⟩)⟩
      ·
        refine x_ib true Z dX4_piece_21 (by decide) ?_
        refine x_goto Z 26 dX4_piece_22 (by decide) ?_
        refine x_iload_n Z dX4_piece_26 rfl rfl ?_
        refine x_if_lt Z 35 dX4_piece_27 (by decide) ⟨by omega, by omega⟩ (fun c27 => ?_) (fun c27 => ?_)
        ·
          refine x_ib true Z dX4_piece_35 (by decide) ?_
          refine x_goto Z 40 dX4_piece_36 (by decide) ?_
          exact join40 _ _ ⟨(by first | exact ⟨fun _ => by omega, fun _ => rfl⟩ | exact ⟨fun h => absurd h (by decide), fun h => (h (by omega)).elim⟩), (by first | exact ⟨fun _ => by omega, fun _ => rfl⟩ | exact ⟨fun h => absurd h (by decide), fun h => (h (by omega)).elim⟩)⟩
        ·
          refine x_iload_n Z dX4_piece_30 rfl rfl ?_
          refine x_iconst Z dX4_piece_31 ?_
          refine x_icmp_le Z 39 dX4_piece_32 (by decide) ⟨by omega, by omega⟩ ⟨by omega, by omega⟩ (fun c32 => ?_) (fun c32 => ?_)
          ·
            refine x_ib false Z dX4_piece_39 (by decide) ?_
            exact join40 _ _ ⟨(by first | exact ⟨fun _ => by omega, fun _ => rfl⟩ | exact ⟨fun h => absurd h (by decide), fun h => (h (by omega)).elim⟩), (by first | exact ⟨fun _ => by omega, fun _ => rfl⟩ | exact ⟨fun h => absurd h (by decide), fun h => (h (by omega)).elim⟩)⟩
          ·
            refine x_ib true Z dX4_piece_35 (by decide) ?_
            refine x_goto Z 40 dX4_piece_36 (by decide) ?_
            exact join40 _ _ ⟨(by first | exact ⟨fun _ => by omega, fun _ => rfl⟩ | exact ⟨fun h => absurd h (by decide), fun h => (h (by omega)).elim⟩), (by first | exact ⟨fun _ => by omega, fun _ => rfl⟩ | exact ⟨fun h => absurd h (by decide), fun h => (h (by omega)).elim⟩)⟩
