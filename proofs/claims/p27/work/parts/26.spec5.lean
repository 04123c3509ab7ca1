/-! spec5: walks, by program -/
theorem q0 : Cond.selects RX2 yX2_signsInAll yX2_signsInAll ∈ gT := gt_s 0 rfl rfl
theorem q1 : Cond.selects RX2 yX2_namesInAll yX2_namesInAll ∈ gT := gt_s 1 rfl rfl
theorem q102 : Cond.instanceMethod yX2_isSound ∈ gT := gt_1 67 rfl rfl
theorem q103 : Cond.selects RX2 yX2_isSound yX2_isSound ∈ gT := gt_1 68 rfl rfl
theorem q104 : Cond.code yX2_isSound cX2_isSound 3 (some .boolean) ∈ gT := gt_1 69 rfl rfl
theorem q105 : Cond.methodLink RX2 182 yX2_areKindsSound ∈ gT := gt_1 70 rfl rfl
theorem q106 : Cond.static yX2_areKindsSound ∈ gT := gt_1 71 rfl rfl
theorem q107 : Cond.code yX2_areKindsSound cX2_areKindsSound 3 (some .boolean) ∈ gT := gt_1 72 rfl rfl
theorem q113 : Cond.methodLink RX2 185 yX1_isTextSound ∈ gT := gt_1 78 rfl rfl
theorem q114 : Cond.instanceMethod yX1_isTextSound ∈ gT := gt_1 79 rfl rfl
theorem q115 : Cond.selects RX1 yX1_isTextSound yX1_isTextSound ∈ gT := gt_1 80 rfl rfl
theorem q116 : Cond.code yX1_isTextSound cX1_isTextSound 3 (some .boolean) ∈ gT := gt_1 81 rfl rfl
theorem q191 : Cond.constantLong RX2 188 8005 ∈ gT := gt_1 156 rfl rfl
theorem q192 : Cond.methodLink RX2 190 yX1_digestFrom ∈ gT := gt_1 157 rfl rfl
theorem q193 : Cond.instanceMethod yX1_digestFrom ∈ gT := gt_1 158 rfl rfl
theorem q194 : Cond.selects RX1 yX1_digestFrom yX1_digestFrom ∈ gT := gt_1 159 rfl rfl
theorem q195 : Cond.code yX1_digestFrom cX1_digestFrom 6 (some .long) ∈ gT := gt_1 160 rfl rfl
theorem q209 : Cond.methodLink RX2 194 yX2_house ∈ gT := gt_1 174 rfl rfl
theorem q210 : Cond.instanceMethod yX2_house ∈ gT := gt_1 175 rfl rfl
theorem q211 : Cond.selects RX2 yX2_house yX2_house ∈ gT := gt_1 176 rfl rfl
theorem q212 : Cond.code yX2_house cX2_house 2 (some .int) ∈ gT := gt_1 177 rfl rfl
theorem q213 : Cond.methodLink RX2 166 yX2_signsInAll ∈ gT := gt_1 178 rfl rfl
theorem q215 : Cond.instanceMethod yX2_signsInAll ∈ gT := gt_1 180 rfl rfl
theorem q216 : Cond.code yX2_signsInAll cX2_signsInAll 3 (some .int) ∈ gT := gt_1 181 rfl rfl
theorem q221 : Cond.methodLink RX2 179 yX2_namesInAll ∈ gT := gt_1 186 rfl rfl
theorem q223 : Cond.instanceMethod yX2_namesInAll ∈ gT := gt_1 188 rfl rfl
theorem q224 : Cond.code yX2_namesInAll cX2_namesInAll 3 (some .int) ∈ gT := gt_1 189 rfl rfl
theorem q225 : Cond.methodLink RX2 135 yX1_isNamed ∈ gT := gt_1 190 rfl rfl
theorem q289 : Cond.methodLink RX2 197 yX2_mixed ∈ gT := gt_2 14 rfl rfl
theorem q290 : Cond.methodLink RX2 201 yX2_isSound ∈ gT := gt_2 15 rfl rfl
theorem q887 : Cond.methodLink RX2 127 yX1_kindAt ∈ gT := gt_4 132 rfl rfl
theorem q895 : Cond.methodLink RX2 130 yJ6_bitCount_0f7a4 ∈ gT := gt_4 140 rfl rfl
theorem q938 : Cond.methodLink RX2 138 yX1_firstFault ∈ gT := gt_4 183 rfl rfl
theorem q946 : Cond.methodLink RX2 141 yX1_sortOf ∈ gT := gt_4 191 rfl rfl
theorem q947 : Cond.instanceMethod yX1_sortOf ∈ gT := gt_4 192 rfl rfl
theorem q948 : Cond.selects RX1 yX1_sortOf yX1_sortOf ∈ gT := gt_4 193 rfl rfl
theorem q949 : Cond.code yX1_sortOf cX1_sortOf 3 (some .int) ∈ gT := gt_4 194 rfl rfl
theorem q964 : Cond.methodLink RX2 145 yX1_begins ∈ gT := gt_4 209 rfl rfl
theorem q972 : Cond.methodLink RX2 148 yX0_sortBegunBy ∈ gT := gt_4 217 rfl rfl
theorem q988 : Cond.methodLink RX2 154 yX2_cutsOf ∈ gT := gt_4 233 rfl rfl
theorem q996 : Cond.methodLink RX2 157 yX1_backBegins ∈ gT := gt_5 1 rfl rfl
theorem q1004 : Cond.methodLink RX2 160 yX1_fewestPieces ∈ gT := gt_5 9 rfl rfl
theorem q1012 : Cond.methodLink RX2 163 yX1_piecesCutAt ∈ gT := gt_5 17 rfl rfl
theorem okX1_sortOf : gOk yX1_sortOf cX1_sortOf 3 (some .int) 2 := ⟨q949, q37, ⟨by decide +kernel, by decide +kernel⟩, by decide +kernel⟩
theorem okX2_signsInAll : gOk yX2_signsInAll cX2_signsInAll 3 (some .int) 0 := ⟨q216, q36, ⟨by decide +kernel, by decide +kernel⟩, by decide +kernel⟩
theorem okX2_namesInAll : gOk yX2_namesInAll cX2_namesInAll 3 (some .int) 0 := ⟨q224, q36, ⟨by decide +kernel, by decide +kernel⟩, by decide +kernel⟩
theorem okX2_areKindsSound : gOk yX2_areKindsSound cX2_areKindsSound 3 (some .boolean) 0 := ⟨q107, q36, ⟨by decide +kernel, by decide +kernel⟩, by decide +kernel⟩
theorem okX1_isTextSound : gOk yX1_isTextSound cX1_isTextSound 3 (some .boolean) 0 := ⟨q116, q37, ⟨by decide +kernel, by decide +kernel⟩, by decide +kernel⟩
theorem okX2_isSound : gOk yX2_isSound cX2_isSound 3 (some .boolean) 0 := ⟨q104, q36, ⟨by decide +kernel, by decide +kernel⟩, by decide +kernel⟩
theorem okX2_house : gOk yX2_house cX2_house 2 (some .int) 1 := ⟨q212, q36, ⟨by decide +kernel, by decide +kernel⟩, by decide +kernel⟩
theorem okX1_digestFrom : gOk yX1_digestFrom cX1_digestFrom 6 (some .long) 1 := ⟨q195, q37, ⟨by decide +kernel, by decide +kernel⟩, by decide +kernel⟩
theorem kS_putB {G : gK} {w w' : wd} {K : kA} {M : kM} {i : Int} {B' : Int → Int} (h : kS G w K M) (h0 : 0 ≤ i) (h3 : i < 3) (ht : tX G w' (K.2.2.1 i) (K.2.2.2.1 i) (K.2.2.2.2 i) (M.1 i) (M.2.1 i) B') (hf : fr (tP (K.2.2.1 i) (K.2.2.2.1 i) (K.2.2.2.2 i)) w w') : kS G w' K M := by
  have e := h.put h0 h3 ht hf
  have e1 : (fun j => if j = i then M.1 i else M.1 j) = M.1 := funext fun j => by
    by_cases h : j = i
    · rw [if_pos h, h]
    · rw [if_neg h]
  have e2 : (fun j => if j = i then M.2.1 i else M.2.1 j) = M.2.1 := funext fun j => by
    by_cases h : j = i
    · rw [if_pos h, h]
    · rw [if_neg h]
  rw [e1, e2] at e
  exact e
theorem all_in {n : Int} (h0 : 0 ≤ n) (h9 : n ≤ 30) : inr (bShl 1 n - 1) := by
  have h : ∀ k : Fin 31, inr (bShl 1 ((k.val : Nat) : Int) - 1) := by decide +kernel
  have e := h ⟨n.toNat, by omega⟩
  have e2 : ((n.toNat : Nat) : Int) = n := Int.toNat_of_nonneg h0
  rw [e2] at e
  exact e
/-- the first place, or the last one -/
def fst9 (P : Int → Bool) (o : Bool) (j v : Int) : Int := if P j = true ∧ (o = true ∨ v = -1) then j else v
theorem fst9_t {P : Int → Bool} {o : Bool} {j v : Int} (h : P j = true) (h2 : o = true ∨ v = -1) : fst9 P o j v = j := if_pos ⟨h, h2⟩
theorem fst9_f {P : Int → Bool} {o : Bool} {j v : Int} (h : P j = false ∨ (o = false ∧ v ≠ -1)) : fst9 P o j v = v := if_neg (fun q => by
  rcases h with h | ⟨h1, h2⟩
  · rw [h] at q
    exact absurd q.1 (by decide)
  · rcases q.2 with q | q
    · rw [h1] at q
      exact absurd q (by decide)
    · exact h2 q)
abbrev rmc_X2_length : Room := { frames := 7, cells := 1, slots := 6, locals := 121 }
set_option maxRecDepth 100000 in
theorem c_X2_length {l : Launch} {s0 : State} {G : gK} {w : wd} (h0 : gS0 s0) (htr : l.stackTraces = false) {K : kA} {M : kM} {t : Int} (hS : kS G w K M) (ht : inr t) : gM l s0 G yX2_length [Cond.code yX2_length cX2_length 2 (some .int)] rmc_X2_length [rv K.1, iv t] w (fun v w' => (v = some (iv (M.1 t)) ∧ w' = w) ∧ 0 ≤ t ∧ t < 3) (fun X w' => X = "java/lang/IndexOutOfBoundsException" ∧ w' = w ∧ ¬ (0 ≤ t ∧ t < 3)) := by
  refine g_of h0 htr (by decide +kernel) (Nat.le_of_ble_eq_true rfl) ?_
  intro b Z0 E
  have Z : gAm b l s0 G cX2_length RX2 2 rmc_X2_length := Z0
  refine x_el (L' := [(0, rv K.1), (1, iv t)]) rfl ?_
  obtain ⟨hk1, ⟨f0, hk2, hk3⟩, hk4, hk5⟩ := id hS
  have hf0 : fr (kP K) w w := fr.rf
  refine x_aload_n Z dX2_length_0 rfl rfl ?_
  refine x_iload_n Z dX2_length_1 rfl rfl ?_
  refine x_callVx (ci := 3) (C := RX2) (T := TX2) (N := 4) Z okX2_textAt q313 q315 q3 rfl dX2_length_2 (c_X2_textAt h0 htr hS (by assumption)) hS.1 ⟨Nat.le_of_ble_eq_true rfl, Nat.le_of_ble_eq_true rfl, Nat.le_of_ble_eq_true rfl, Nat.le_of_ble_eq_true rfl⟩ rfl rfl (Nat.le_of_ble_eq_true rfl) (fun X w9 hX => x_out Z E (⟨hX.1, hX.2.1, fun h => hX.2.2 (by omega)⟩) (Nat.le_of_ble_eq_true rfl) (Nat.le_of_ble_eq_true rfl)) (fun v9 w9 hR => ?_)
  obtain ⟨⟨rfl, e9⟩, hp0t, hp3t⟩ := hR
  refine x_ew e9 ?_
  simp only [Option.toList_some, Option.toList_none, List.cons_append, List.nil_append]
  obtain ⟨B, ht⟩ := hS.2.2.1 t hp0t hp3t
  obtain ⟨ha, hr, hb, hn0, hn30, hC⟩ := id ht
  have hm0 := hn0
  have hm30 := hn30
  have hmC := hC
  refine x_callV (ci := 2) (C := RX1) (T := TX1) (N := 3) Z okX1_size q217 q218 q219 rfl dX2_length_5 (c_X1_size h0 htr ht) ht.1 ⟨Nat.le_of_ble_eq_true rfl, Nat.le_of_ble_eq_true rfl, Nat.le_of_ble_eq_true rfl, Nat.le_of_ble_eq_true rfl⟩ rfl rfl (Nat.le_of_ble_eq_true rfl) (fun v9 w9 hR => ?_)
  obtain ⟨rfl, e9⟩ := hR
  refine x_ew e9 ?_
  simp only [Option.toList_some, Option.toList_none, List.cons_append, List.nil_append]
  exact x_iret Z E (⟨⟨rfl, rfl⟩, by omega⟩) dX2_length_8 (Nat.le_of_ble_eq_true rfl) (Nat.le_of_ble_eq_true rfl)
abbrev rmc_X2_sign : Room := { frames := 7, cells := 2, slots := 12, locals := 121 }
set_option maxRecDepth 100000 in
theorem c_X2_sign {l : Launch} {s0 : State} {G : gK} {w : wd} (h0 : gS0 s0) (htr : l.stackTraces = false) {K : kA} {M : kM} {t : Int} {p : Int} (hS : kS G w K M) (ht : inr t) (hp : inr p) : gM l s0 G yX2_sign [Cond.code yX2_sign cX2_sign 4 (some .int)] rmc_X2_sign [rv K.1, iv t, iv p] w (fun v w' => (v = some (iv (M.2.1 t p)) ∧ w' = w) ∧ (0 ≤ t ∧ t < 3) ∧ 0 ≤ p ∧ p < M.1 t) (fun X w' => X = "java/lang/IndexOutOfBoundsException" ∧ w' = w ∧ ¬ ((0 ≤ t ∧ t < 3) ∧ 0 ≤ p ∧ p < M.1 t)) := by
  refine g_of h0 htr (by decide +kernel) (Nat.le_of_ble_eq_true rfl) ?_
  intro b Z0 E
  have Z : gAm b l s0 G cX2_sign RX2 4 rmc_X2_sign := Z0
  refine x_el (L' := [(0, rv K.1), (1, iv t), (2, iv p)]) rfl ?_
  obtain ⟨hk1, ⟨f0, hk2, hk3⟩, hk4, hk5⟩ := id hS
  have hf0 : fr (kP K) w w := fr.rf
  refine x_aload_n Z dX2_sign_0 rfl rfl ?_
  refine x_iload_n Z dX2_sign_1 rfl rfl ?_
  refine x_callVx (ci := 3) (C := RX2) (T := TX2) (N := 4) Z okX2_textAt q313 q315 q3 rfl dX2_sign_2 (c_X2_textAt h0 htr hS (by assumption)) hS.1 ⟨Nat.le_of_ble_eq_true rfl, Nat.le_of_ble_eq_true rfl, Nat.le_of_ble_eq_true rfl, Nat.le_of_ble_eq_true rfl⟩ rfl rfl (Nat.le_of_ble_eq_true rfl) (fun X w9 hX => x_out Z E (⟨hX.1, hX.2.1, fun h => hX.2.2 (by omega)⟩) (Nat.le_of_ble_eq_true rfl) (Nat.le_of_ble_eq_true rfl)) (fun v9 w9 hR => ?_)
  obtain ⟨⟨rfl, e9⟩, hp0t, hp3t⟩ := hR
  refine x_ew e9 ?_
  simp only [Option.toList_some, Option.toList_none, List.cons_append, List.nil_append]
  obtain ⟨B, ht⟩ := hS.2.2.1 t hp0t hp3t
  obtain ⟨ha, hr, hb, hn0, hn30, hC⟩ := id ht
  have hm0 := hn0
  have hm30 := hn30
  have hmC := hC
  refine x_astore_n (L' := [(3, _), (0, _), (1, _), (2, _)]) Z dX2_sign_5 rfl (Nat.le_of_ble_eq_true rfl) rfl ?_
  refine x_aload_n Z dX2_sign_6 rfl rfl ?_
  refine x_iload_n Z dX2_sign_7 rfl rfl ?_
  refine x_callSx Z okX2_checkPlace q362 q363 dX2_sign_8 (c_X2_checkPlace h0 htr ht (by assumption)) ⟨Nat.le_of_ble_eq_true rfl, Nat.le_of_ble_eq_true rfl, Nat.le_of_ble_eq_true rfl, Nat.le_of_ble_eq_true rfl⟩ rfl rfl (Nat.le_of_ble_eq_true rfl) (fun X w9 hX => x_out Z E (⟨hX.1, hX.2.1, fun h => hX.2.2 (by omega)⟩) (Nat.le_of_ble_eq_true rfl) (Nat.le_of_ble_eq_true rfl)) (fun v9 w9 hR => ?_)
  obtain ⟨⟨rfl, e9⟩, hl0, hl9⟩ := hR
  refine x_ew e9 ?_
  simp only [Option.toList_some, Option.toList_none, List.cons_append, List.nil_append]
  refine x_aload_n Z dX2_sign_11 rfl rfl ?_
  refine x_iload_n Z dX2_sign_12 rfl rfl ?_
  refine x_callV (ci := 2) (C := RX1) (T := TX1) (N := 3) Z okX1_signAt q365 q126 q127 rfl dX2_sign_13 (c_X1_signAt h0 htr ht (by omega) (by omega)) ht.1 ⟨Nat.le_of_ble_eq_true rfl, Nat.le_of_ble_eq_true rfl, Nat.le_of_ble_eq_true rfl, Nat.le_of_ble_eq_true rfl⟩ rfl rfl (Nat.le_of_ble_eq_true rfl) (fun v9 w9 hR => ?_)
  obtain ⟨rfl, e9⟩ := hR
  refine x_ew e9 ?_
  simp only [Option.toList_some, Option.toList_none, List.cons_append, List.nil_append]
  exact x_iret Z E (⟨⟨rfl, rfl⟩, by omega⟩) dX2_sign_16 (Nat.le_of_ble_eq_true rfl) (Nat.le_of_ble_eq_true rfl)
abbrev rmc_X2_count : Room := { frames := 7, cells := 2, slots := 12, locals := 121 }
set_option maxRecDepth 100000 in
theorem c_X2_count {l : Launch} {s0 : State} {G : gK} {w : wd} (h0 : gS0 s0) (htr : l.stackTraces = false) {K : kA} {M : kM} {t : Int} {q : Int} (hS : kS G w K M) (ht : inr t) (hq : inr q) : gM l s0 G yX2_count [Cond.code yX2_count cX2_count 4 (some .int)] rmc_X2_count [rv K.1, iv t, iv q] w (fun v w' => (v = some (iv (forI (cst (fun j => so (M.2.1 t j) q)) 0 (M.1 t) 0)) ∧ w' = w) ∧ ((0 ≤ t ∧ t < 3) ∧ 0 ≤ q ∧ q < 14)) (fun X w' => ((X = "java/lang/IndexOutOfBoundsException" ∧ ¬ (0 ≤ t ∧ t < 3)) ∨ (X = "java/lang/IllegalArgumentException" ∧ (0 ≤ t ∧ t < 3) ∧ ¬ (0 ≤ q ∧ q < 14))) ∧ w' = w) := by
  refine g_of h0 htr (by decide +kernel) (Nat.le_of_ble_eq_true rfl) ?_
  intro b Z0 E
  have Z : gAm b l s0 G cX2_count RX2 4 rmc_X2_count := Z0
  refine x_el (L' := [(0, rv K.1), (1, iv t), (2, iv q)]) rfl ?_
  obtain ⟨hk1, ⟨f0, hk2, hk3⟩, hk4, hk5⟩ := id hS
  have hf0 : fr (kP K) w w := fr.rf
  refine x_aload_n Z dX2_count_0 rfl rfl ?_
  refine x_iload_n Z dX2_count_1 rfl rfl ?_
  refine x_callVx (ci := 3) (C := RX2) (T := TX2) (N := 4) Z okX2_textAt q313 q315 q3 rfl dX2_count_2 (c_X2_textAt h0 htr hS (by assumption)) hS.1 ⟨Nat.le_of_ble_eq_true rfl, Nat.le_of_ble_eq_true rfl, Nat.le_of_ble_eq_true rfl, Nat.le_of_ble_eq_true rfl⟩ rfl rfl (Nat.le_of_ble_eq_true rfl) (fun X w9 hX => x_out Z E (⟨Or.inl ⟨hX.1, fun h => hX.2.2 (by omega)⟩, hX.2.1⟩) (Nat.le_of_ble_eq_true rfl) (Nat.le_of_ble_eq_true rfl)) (fun v9 w9 hR => ?_)
  obtain ⟨⟨rfl, e9⟩, hp0t, hp3t⟩ := hR
  refine x_ew e9 ?_
  simp only [Option.toList_some, Option.toList_none, List.cons_append, List.nil_append]
  obtain ⟨B, ht⟩ := hS.2.2.1 t hp0t hp3t
  obtain ⟨ha, hr, hb, hn0, hn30, hC⟩ := id ht
  have hm0 := hn0
  have hm30 := hn30
  have hmC := hC
  refine x_astore_n (L' := [(3, _), (0, _), (1, _), (2, _)]) Z dX2_count_5 rfl (Nat.le_of_ble_eq_true rfl) rfl ?_
  refine x_iload_n Z dX2_count_6 rfl rfl ?_
  refine x_callSx Z okX2_checkQuestion q450 q451 dX2_count_7 (c_X2_checkQuestion h0 htr (by assumption)) ⟨Nat.le_of_ble_eq_true rfl, Nat.le_of_ble_eq_true rfl, Nat.le_of_ble_eq_true rfl, Nat.le_of_ble_eq_true rfl⟩ rfl rfl (Nat.le_of_ble_eq_true rfl) (fun X w9 hX => x_out Z E (⟨Or.inr ⟨hX.1, by omega, fun h => hX.2.2 (by omega)⟩, hX.2.1⟩) (Nat.le_of_ble_eq_true rfl) (Nat.le_of_ble_eq_true rfl)) (fun v9 w9 hR => ?_)
  obtain ⟨⟨rfl, e9⟩, hq0, hq9⟩ := hR
  refine x_ew e9 ?_
  simp only [Option.toList_some, Option.toList_none, List.cons_append, List.nil_append]
  refine x_aload_n Z dX2_count_10 rfl rfl ?_
  refine x_iload_n Z dX2_count_11 rfl rfl ?_
  refine x_callV (ci := 2) (C := RX1) (T := TX1) (N := 3) Z okX1_placesOf q453 q206 q207 rfl dX2_count_12 (c_X1_placesOf h0 htr ht (by omega) (by omega)) ht.1 ⟨Nat.le_of_ble_eq_true rfl, Nat.le_of_ble_eq_true rfl, Nat.le_of_ble_eq_true rfl, Nat.le_of_ble_eq_true rfl⟩ rfl rfl (Nat.le_of_ble_eq_true rfl) (fun v9 w9 hR => ?_)
  obtain ⟨rfl, e9⟩ := hR
  refine x_ew e9 ?_
  simp only [Option.toList_some, Option.toList_none, List.cons_append, List.nil_append]
  refine x_callS Z okJ6_bitCount_0f7a4 q895 q155 dX2_count_15 (c_J6_bitCount_0f7a4 h0 htr ) ⟨Nat.le_of_ble_eq_true rfl, Nat.le_of_ble_eq_true rfl, Nat.le_of_ble_eq_true rfl, Nat.le_of_ble_eq_true rfl⟩ rfl rfl (Nat.le_of_ble_eq_true rfl) (fun v9 w9 hR => ?_)
  obtain ⟨rfl, e9⟩ := hR
  refine x_ew e9 ?_
  simp only [Option.toList_some, Option.toList_none, List.cons_append, List.nil_append]
  exact x_iret Z E (⟨⟨by rw [bcn_msk hm0 hm30], rfl⟩, by omega⟩) dX2_count_18 (Nat.le_of_ble_eq_true rfl) (Nat.le_of_ble_eq_true rfl)
abbrev rmc_X2_countKind : Room := { frames := 7, cells := 2, slots := 12, locals := 121 }
set_option maxRecDepth 100000 in
theorem c_X2_countKind {l : Launch} {s0 : State} {G : gK} {w : wd} (h0 : gS0 s0) (htr : l.stackTraces = false) {K : kA} {M : kM} {t : Int} {q : Int} (hS : kS G w K M) (ht : inr t) (hq : inr q) : gM l s0 G yX2_countKind [Cond.code yX2_countKind cX2_countKind 4 (some .int)] rmc_X2_countKind [rv K.1, iv t, iv q] w (fun v w' => (v = some (iv (forI (cst (fun j => decide (kin (M.2.1 t j) = q))) 0 (M.1 t) 0)) ∧ w' = w) ∧ ((0 ≤ t ∧ t < 3) ∧ 0 ≤ q ∧ q < 31)) (fun X w' => ((X = "java/lang/IndexOutOfBoundsException" ∧ ¬ (0 ≤ t ∧ t < 3)) ∨ (X = "java/lang/IllegalArgumentException" ∧ (0 ≤ t ∧ t < 3) ∧ ¬ (0 ≤ q ∧ q < 31))) ∧ w' = w) := by
  refine g_of h0 htr (by decide +kernel) (Nat.le_of_ble_eq_true rfl) ?_
  intro b Z0 E
  have Z : gAm b l s0 G cX2_countKind RX2 4 rmc_X2_countKind := Z0
  refine x_el (L' := [(0, rv K.1), (1, iv t), (2, iv q)]) rfl ?_
  obtain ⟨hk1, ⟨f0, hk2, hk3⟩, hk4, hk5⟩ := id hS
  have hf0 : fr (kP K) w w := fr.rf
  refine x_aload_n Z dX2_countKind_0 rfl rfl ?_
  refine x_iload_n Z dX2_countKind_1 rfl rfl ?_
  refine x_callVx (ci := 3) (C := RX2) (T := TX2) (N := 4) Z okX2_textAt q313 q315 q3 rfl dX2_countKind_2 (c_X2_textAt h0 htr hS (by assumption)) hS.1 ⟨Nat.le_of_ble_eq_true rfl, Nat.le_of_ble_eq_true rfl, Nat.le_of_ble_eq_true rfl, Nat.le_of_ble_eq_true rfl⟩ rfl rfl (Nat.le_of_ble_eq_true rfl) (fun X w9 hX => x_out Z E (⟨Or.inl ⟨hX.1, fun h => hX.2.2 (by omega)⟩, hX.2.1⟩) (Nat.le_of_ble_eq_true rfl) (Nat.le_of_ble_eq_true rfl)) (fun v9 w9 hR => ?_)
  obtain ⟨⟨rfl, e9⟩, hp0t, hp3t⟩ := hR
  refine x_ew e9 ?_
  simp only [Option.toList_some, Option.toList_none, List.cons_append, List.nil_append]
  obtain ⟨B, ht⟩ := hS.2.2.1 t hp0t hp3t
  obtain ⟨ha, hr, hb, hn0, hn30, hC⟩ := id ht
  have hm0 := hn0
  have hm30 := hn30
  have hmC := hC
  refine x_astore_n (L' := [(3, _), (0, _), (1, _), (2, _)]) Z dX2_countKind_5 rfl (Nat.le_of_ble_eq_true rfl) rfl ?_
  refine x_iload_n Z dX2_countKind_6 rfl rfl ?_
  refine x_callSx Z okX2_checkKind q464 q465 dX2_countKind_7 (c_X2_checkKind h0 htr (by assumption)) ⟨Nat.le_of_ble_eq_true rfl, Nat.le_of_ble_eq_true rfl, Nat.le_of_ble_eq_true rfl, Nat.le_of_ble_eq_true rfl⟩ rfl rfl (Nat.le_of_ble_eq_true rfl) (fun X w9 hX => x_out Z E (⟨Or.inr ⟨hX.1, by omega, fun h => hX.2.2 (by omega)⟩, hX.2.1⟩) (Nat.le_of_ble_eq_true rfl) (Nat.le_of_ble_eq_true rfl)) (fun v9 w9 hR => ?_)
  obtain ⟨⟨rfl, e9⟩, hq0, hq9⟩ := hR
  refine x_ew e9 ?_
  simp only [Option.toList_some, Option.toList_none, List.cons_append, List.nil_append]
  refine x_aload_n Z dX2_countKind_10 rfl rfl ?_
  refine x_iload_n Z dX2_countKind_11 rfl rfl ?_
  refine x_callV (ci := 2) (C := RX1) (T := TX1) (N := 3) Z okX1_placesOfKind q467 q468 q469 rfl dX2_countKind_12 (c_X1_placesOfKind h0 htr ht (by omega) (by omega)) ht.1 ⟨Nat.le_of_ble_eq_true rfl, Nat.le_of_ble_eq_true rfl, Nat.le_of_ble_eq_true rfl, Nat.le_of_ble_eq_true rfl⟩ rfl rfl (Nat.le_of_ble_eq_true rfl) (fun v9 w9 hR => ?_)
  obtain ⟨rfl, e9⟩ := hR
  refine x_ew e9 ?_
  simp only [Option.toList_some, Option.toList_none, List.cons_append, List.nil_append]
  refine x_callS Z okJ6_bitCount_0f7a4 q895 q155 dX2_countKind_15 (c_J6_bitCount_0f7a4 h0 htr ) ⟨Nat.le_of_ble_eq_true rfl, Nat.le_of_ble_eq_true rfl, Nat.le_of_ble_eq_true rfl, Nat.le_of_ble_eq_true rfl⟩ rfl rfl (Nat.le_of_ble_eq_true rfl) (fun v9 w9 hR => ?_)
  obtain ⟨rfl, e9⟩ := hR
  refine x_ew e9 ?_
  simp only [Option.toList_some, Option.toList_none, List.cons_append, List.nil_append]
  exact x_iret Z E (⟨⟨by rw [bcn_msk hm0 hm30], rfl⟩, by omega⟩) dX2_countKind_18 (Nat.le_of_ble_eq_true rfl) (Nat.le_of_ble_eq_true rfl)
abbrev rmc_X2_isAll : Room := { frames := 7, cells := 2, slots := 12, locals := 121 }
set_option maxRecDepth 100000 in
theorem c_X2_isAll {l : Launch} {s0 : State} {G : gK} {w : wd} (h0 : gS0 s0) (htr : l.stackTraces = false) {K : kA} {M : kM} {t : Int} {q : Int} (hS : kS G w K M) (ht : inr t) (hq : inr q) : gM l s0 G yX2_isAll [Cond.code yX2_isAll cX2_isAll 4 (some .boolean)] rmc_X2_isAll [rv K.1, iv t, iv q] w (fun v w' => (v = some (iv (b2 (decide (findI (fun j => !so (M.2.1 t j) q) 0 (M.1 t) = M.1 t)))) ∧ w' = w) ∧ ((0 ≤ t ∧ t < 3) ∧ 0 ≤ q ∧ q < 14)) (fun X w' => ((X = "java/lang/IndexOutOfBoundsException" ∧ ¬ (0 ≤ t ∧ t < 3)) ∨ (X = "java/lang/IllegalArgumentException" ∧ (0 ≤ t ∧ t < 3) ∧ ¬ (0 ≤ q ∧ q < 14))) ∧ w' = w) := by
  refine g_of h0 htr (by decide +kernel) (Nat.le_of_ble_eq_true rfl) ?_
  intro b Z0 E
  have Z : gAm b l s0 G cX2_isAll RX2 4 rmc_X2_isAll := Z0
  refine x_el (L' := [(0, rv K.1), (1, iv t), (2, iv q)]) rfl ?_
  obtain ⟨hk1, ⟨f0, hk2, hk3⟩, hk4, hk5⟩ := id hS
  have hf0 : fr (kP K) w w := fr.rf
  refine x_aload_n Z dX2_isAll_0 rfl rfl ?_
  refine x_iload_n Z dX2_isAll_1 rfl rfl ?_
  refine x_callVx (ci := 3) (C := RX2) (T := TX2) (N := 4) Z okX2_textAt q313 q315 q3 rfl dX2_isAll_2 (c_X2_textAt h0 htr hS (by assumption)) hS.1 ⟨Nat.le_of_ble_eq_true rfl, Nat.le_of_ble_eq_true rfl, Nat.le_of_ble_eq_true rfl, Nat.le_of_ble_eq_true rfl⟩ rfl rfl (Nat.le_of_ble_eq_true rfl) (fun X w9 hX => x_out Z E (⟨Or.inl ⟨hX.1, fun h => hX.2.2 (by omega)⟩, hX.2.1⟩) (Nat.le_of_ble_eq_true rfl) (Nat.le_of_ble_eq_true rfl)) (fun v9 w9 hR => ?_)
  obtain ⟨⟨rfl, e9⟩, hp0t, hp3t⟩ := hR
  refine x_ew e9 ?_
  simp only [Option.toList_some, Option.toList_none, List.cons_append, List.nil_append]
  obtain ⟨B, ht⟩ := hS.2.2.1 t hp0t hp3t
  obtain ⟨ha, hr, hb, hn0, hn30, hC⟩ := id ht
  have hm0 := hn0
  have hm30 := hn30
  have hmC := hC
  refine x_astore_n (L' := [(3, _), (0, _), (1, _), (2, _)]) Z dX2_isAll_5 rfl (Nat.le_of_ble_eq_true rfl) rfl ?_
  refine x_iload_n Z dX2_isAll_6 rfl rfl ?_
  refine x_callSx Z okX2_checkQuestion q450 q451 dX2_isAll_7 (c_X2_checkQuestion h0 htr (by assumption)) ⟨Nat.le_of_ble_eq_true rfl, Nat.le_of_ble_eq_true rfl, Nat.le_of_ble_eq_true rfl, Nat.le_of_ble_eq_true rfl⟩ rfl rfl (Nat.le_of_ble_eq_true rfl) (fun X w9 hX => x_out Z E (⟨Or.inr ⟨hX.1, by omega, fun h => hX.2.2 (by omega)⟩, hX.2.1⟩) (Nat.le_of_ble_eq_true rfl) (Nat.le_of_ble_eq_true rfl)) (fun v9 w9 hR => ?_)
  obtain ⟨⟨rfl, e9⟩, hq0, hq9⟩ := hR
  refine x_ew e9 ?_
  simp only [Option.toList_some, Option.toList_none, List.cons_append, List.nil_append]
  refine x_aload_n Z dX2_isAll_10 rfl rfl ?_
  refine x_iload_n Z dX2_isAll_11 rfl rfl ?_
  refine x_callV (ci := 2) (C := RX1) (T := TX1) (N := 3) Z okX1_placesOf q453 q206 q207 rfl dX2_isAll_12 (c_X1_placesOf h0 htr ht (by omega) (by omega)) ht.1 ⟨Nat.le_of_ble_eq_true rfl, Nat.le_of_ble_eq_true rfl, Nat.le_of_ble_eq_true rfl, Nat.le_of_ble_eq_true rfl⟩ rfl rfl (Nat.le_of_ble_eq_true rfl) (fun v9 w9 hR => ?_)
  obtain ⟨rfl, e9⟩ := hR
  refine x_ew e9 ?_
  simp only [Option.toList_some, Option.toList_none, List.cons_append, List.nil_append]
  refine x_aload_n Z dX2_isAll_15 rfl rfl ?_
  refine x_callV (ci := 2) (C := RX1) (T := TX1) (N := 3) Z okX1_allPlaces q381 q382 q383 rfl dX2_isAll_16 (c_X1_allPlaces h0 htr ht) ht.1 ⟨Nat.le_of_ble_eq_true rfl, Nat.le_of_ble_eq_true rfl, Nat.le_of_ble_eq_true rfl, Nat.le_of_ble_eq_true rfl⟩ rfl rfl (Nat.le_of_ble_eq_true rfl) (fun v9 w9 hR => ?_)
  obtain ⟨rfl, e9⟩ := hR
  refine x_ew e9 ?_
  simp only [Option.toList_some, Option.toList_none, List.cons_append, List.nil_append]
  have hm1 := msk_in (fun j => so (M.2.1 t j) q) (M.1 t)
  have hm2 := all_in hn0 hn30
  have hal := (msk_all (P := fun j => so (M.2.1 t j) q) hm0 hm30 hm2).trans (alF_iff hm0).symm
  refine x_icmp_ne Z 26 dX2_isAll_19 (by decide) ⟨by omega, by omega⟩ ⟨by omega, by omega⟩ (fun c19 => ?_) (fun c19 => ?_)
  ·
    refine x_ib false Z dX2_isAll_26 (by decide) ?_
    exact x_zret Z E (⟨⟨by first | (rw [decide_eq_true (hal.mp c19)]; done) | (rw [decide_eq_false (fun h => c19 (hal.mpr h))]; done), rfl⟩, by omega⟩) dX2_isAll_27 (Nat.le_of_ble_eq_true rfl) (Nat.le_of_ble_eq_true rfl)
  ·
    refine x_ib true Z dX2_isAll_22 (by decide) ?_
    refine x_goto Z 27 dX2_isAll_23 (by decide) ?_
    exact x_zret Z E (⟨⟨by first | (rw [decide_eq_true (hal.mp c19)]; done) | (rw [decide_eq_false (fun h => c19 (hal.mpr h))]; done), rfl⟩, by omega⟩) dX2_isAll_27 (Nat.le_of_ble_eq_true rfl) (Nat.le_of_ble_eq_true rfl)
abbrev rmc_X2_first : Room := { frames := 7, cells := 2, slots := 12, locals := 121 }
set_option maxRecDepth 100000 in
theorem c_X2_first {l : Launch} {s0 : State} {G : gK} {w : wd} (h0 : gS0 s0) (htr : l.stackTraces = false) {K : kA} {M : kM} {t : Int} {q : Int} {o : Bool} (hS : kS G w K M) (ht : inr t) (hq : inr q) : gM l s0 G yX2_first [Cond.code yX2_first cX2_first 7 (some .int)] rmc_X2_first [rv K.1, iv t, iv q, iv (b2 o)] w (fun v w' => (v = some (iv (forI (fst9 (fun j => so (M.2.1 t j) q) o) 0 (M.1 t) (-1))) ∧ w' = w) ∧ ((0 ≤ t ∧ t < 3) ∧ 0 ≤ q ∧ q < 14)) (fun X w' => ((X = "java/lang/IndexOutOfBoundsException" ∧ ¬ (0 ≤ t ∧ t < 3)) ∨ (X = "java/lang/IllegalArgumentException" ∧ (0 ≤ t ∧ t < 3) ∧ ¬ (0 ≤ q ∧ q < 14))) ∧ w' = w) := by
  refine g_of h0 htr (by decide +kernel) (Nat.le_of_ble_eq_true rfl) ?_
  intro b Z0 E
  have Z : gAm b l s0 G cX2_first RX2 7 rmc_X2_first := Z0
  refine x_el (L' := [(0, rv K.1), (1, iv t), (2, iv q), (3, iv (b2 o))]) rfl ?_
  obtain ⟨hk1, ⟨f0, hk2, hk3⟩, hk4, hk5⟩ := id hS
  have hf0 : fr (kP K) w w := fr.rf
  refine x_aload_n Z dX2_first_0 rfl rfl ?_
  refine x_iload_n Z dX2_first_1 rfl rfl ?_
  refine x_callVx (ci := 3) (C := RX2) (T := TX2) (N := 4) Z okX2_textAt q313 q315 q3 rfl dX2_first_2 (c_X2_textAt h0 htr hS (by assumption)) hS.1 ⟨Nat.le_of_ble_eq_true rfl, Nat.le_of_ble_eq_true rfl, Nat.le_of_ble_eq_true rfl, Nat.le_of_ble_eq_true rfl⟩ rfl rfl (Nat.le_of_ble_eq_true rfl) (fun X w9 hX => x_out Z E (⟨Or.inl ⟨hX.1, fun h => hX.2.2 (by omega)⟩, hX.2.1⟩) (Nat.le_of_ble_eq_true rfl) (Nat.le_of_ble_eq_true rfl)) (fun v9 w9 hR => ?_)
  obtain ⟨⟨rfl, e9⟩, hp0t, hp3t⟩ := hR
  refine x_ew e9 ?_
  simp only [Option.toList_some, Option.toList_none, List.cons_append, List.nil_append]
  obtain ⟨B, ht⟩ := hS.2.2.1 t hp0t hp3t
  obtain ⟨ha, hr, hb, hn0, hn30, hC⟩ := id ht
  have hm0 := hn0
  have hm30 := hn30
  have hmC := hC
  refine x_astore (L' := [(4, _), (0, _), (1, _), (2, _), (3, _)]) Z dX2_first_5 (Nat.le_of_ble_eq_true rfl) rfl ?_
  refine x_iload_n Z dX2_first_7 rfl rfl ?_
  refine x_callSx Z okX2_checkQuestion q450 q451 dX2_first_8 (c_X2_checkQuestion h0 htr (by assumption)) ⟨Nat.le_of_ble_eq_true rfl, Nat.le_of_ble_eq_true rfl, Nat.le_of_ble_eq_true rfl, Nat.le_of_ble_eq_true rfl⟩ rfl rfl (Nat.le_of_ble_eq_true rfl) (fun X w9 hX => x_out Z E (⟨Or.inr ⟨hX.1, by omega, fun h => hX.2.2 (by omega)⟩, hX.2.1⟩) (Nat.le_of_ble_eq_true rfl) (Nat.le_of_ble_eq_true rfl)) (fun v9 w9 hR => ?_)
  obtain ⟨⟨rfl, e9⟩, hq0, hq9⟩ := hR
  refine x_ew e9 ?_
  simp only [Option.toList_some, Option.toList_none, List.cons_append, List.nil_append]
  refine x_iconst Z dX2_first_11 ?_
  refine x_istore (L' := [(5, _), (4, _), (0, _), (1, _), (2, _), (3, _)]) Z dX2_first_12 (Nat.le_of_ble_eq_true rfl) rfl ?_
  refine x_iconst Z dX2_first_14 ?_
  refine x_istore (L' := [(6, _), (5, _), (4, _), (0, _), (1, _), (2, _), (3, _)]) Z dX2_first_15 (Nat.le_of_ble_eq_true rfl) rfl ?_
  have loop17 : ∀ (fu : Nat) (i v : Int), M.1 t - i < (fu : Int) → (0 ≤ i ∧ i ≤ M.1 t ∧ -1 ≤ v ∧ v ≤ i ∧ forI (fst9 (fun j => so (M.2.1 t j) q) o) i (M.1 t) v = forI (fst9 (fun j => so (M.2.1 t j) q) o) 0 (M.1 t) (-1)) → gX b s0 G (2) (12) 17 [(6, iv i), (5, iv v), (4, rv (K.2.2.1 t)), (0, rv K.1), (1, iv t), (2, iv q), (3, iv (b2 o))] [] (w) := by
    intro fu; induction fu with
    | zero => intro i v hm hv; exact absurd hm (by omega)
    | succ fu ih17 =>
      intro i v hm hv
      obtain ⟨hi0, hin, hv0, hvi, hif⟩ := hv
      have hCi := hC i
      refine x_iload Z dX2_first_17 rfl ?_
      refine x_aload Z dX2_first_19 rfl ?_
      refine x_callV (ci := 2) (C := RX1) (T := TX1) (N := 3) Z okX1_size q217 q218 q219 rfl dX2_first_21 (c_X1_size h0 htr ht) ht.1 ⟨Nat.le_of_ble_eq_true rfl, Nat.le_of_ble_eq_true rfl, Nat.le_of_ble_eq_true rfl, Nat.le_of_ble_eq_true rfl⟩ rfl rfl (Nat.le_of_ble_eq_true rfl) (fun v9 w9 hR => ?_)
      obtain ⟨rfl, e9⟩ := hR
      refine x_ew e9 ?_
      simp only [Option.toList_some, Option.toList_none, List.cons_append, List.nil_append]
      refine x_icmp_ge Z 61 dX2_first_24 (by decide) ⟨by omega, by omega⟩ ⟨by omega, by omega⟩ (fun c24 => ?_) (fun c24 => ?_)
      ·
        refine x_iload Z dX2_first_61 rfl ?_
        exact x_iret Z E (⟨⟨by rw [← hif, forI_e (by omega)], rfl⟩, by omega⟩) dX2_first_63 (Nat.le_of_ble_eq_true rfl) (Nat.le_of_ble_eq_true rfl)
      ·
        refine x_aload Z dX2_first_27 rfl ?_
        refine x_iload Z dX2_first_29 rfl ?_
        refine x_callV (ci := 2) (C := RX1) (T := TX1) (N := 3) Z okX1_signAt q365 q126 q127 rfl dX2_first_31 (c_X1_signAt h0 htr ht (by omega) (by omega)) ht.1 ⟨Nat.le_of_ble_eq_true rfl, Nat.le_of_ble_eq_true rfl, Nat.le_of_ble_eq_true rfl, Nat.le_of_ble_eq_true rfl⟩ rfl rfl (Nat.le_of_ble_eq_true rfl) (fun v9 w9 hR => ?_)
        obtain ⟨rfl, e9⟩ := hR
        refine x_ew e9 ?_
        simp only [Option.toList_some, Option.toList_none, List.cons_append, List.nil_append]
        refine x_iload_n Z dX2_first_34 rfl rfl ?_
        refine x_callS Z okX0_isSo q508 q135 dX2_first_35 (c_X0_isSo h0 htr (by omega) (by omega) (by omega) (by omega)) ⟨Nat.le_of_ble_eq_true rfl, Nat.le_of_ble_eq_true rfl, Nat.le_of_ble_eq_true rfl, Nat.le_of_ble_eq_true rfl⟩ rfl rfl (Nat.le_of_ble_eq_true rfl) (fun v9 w9 hR => ?_)
        obtain ⟨rfl, e9⟩ := hR
        refine x_ew e9 ?_
        simp only [Option.toList_some, Option.toList_none, List.cons_append, List.nil_append]
        refine x_ifb_eq Z 55 dX2_first_38 (by decide) (fun c38 => ?_) (fun c38 => ?_)
        ·
          refine x_iinc (L' := [(6, _), (5, _), (4, _), (0, _), (1, _), (2, _), (3, _)]) Z dX2_first_55 rfl (Nat.le_of_ble_eq_true rfl) rfl ?_
          refine x_goto Z 17 dX2_first_58 (by decide) ?_
          first | exact ih17 (i + 1) i (by omega) ⟨by omega, by omega, by omega, by omega, by rw [← hif, forI_s (i := i) (by omega), fst9_t (P := fun j => so (M.2.1 t j) q) c38 (by first | exact Or.inl c42 | exact Or.inr c48)]⟩ | exact ih17 (i + 1) v (by omega) ⟨by omega, by omega, by omega, by omega, by rw [← hif, forI_s (i := i) (by omega), fst9_f (P := fun j => so (M.2.1 t j) q) (by first | exact Or.inl c38 | exact Or.inr ⟨c42, c48⟩)]⟩
        ·
          refine x_iload_n Z dX2_first_41 rfl rfl ?_
          refine x_ifb_ne Z 51 dX2_first_42 (by decide) (fun c42 => ?_) (fun c42 => ?_)
          ·
            refine x_iload Z dX2_first_51 rfl ?_
            refine x_istore (L' := [(5, _), (6, _), (4, _), (0, _), (1, _), (2, _), (3, _)]) Z dX2_first_53 (Nat.le_of_ble_eq_true rfl) rfl ?_
            refine x_iinc (L' := [(6, _), (5, _), (4, _), (0, _), (1, _), (2, _), (3, _)]) Z dX2_first_55 rfl (Nat.le_of_ble_eq_true rfl) rfl ?_
            refine x_goto Z 17 dX2_first_58 (by decide) ?_
            first | exact ih17 (i + 1) i (by omega) ⟨by omega, by omega, by omega, by omega, by rw [← hif, forI_s (i := i) (by omega), fst9_t (P := fun j => so (M.2.1 t j) q) c38 (by first | exact Or.inl c42 | exact Or.inr c48)]⟩ | exact ih17 (i + 1) v (by omega) ⟨by omega, by omega, by omega, by omega, by rw [← hif, forI_s (i := i) (by omega), fst9_f (P := fun j => so (M.2.1 t j) q) (by first | exact Or.inl c38 | exact Or.inr ⟨c42, c48⟩)]⟩
          ·
            refine x_iload Z dX2_first_45 rfl ?_
            refine x_iconst Z dX2_first_47 ?_
            refine x_icmp_ne Z 55 dX2_first_48 (by decide) ⟨by omega, by omega⟩ ⟨by omega, by omega⟩ (fun c48 => ?_) (fun c48 => ?_)
            ·
              refine x_iinc (L' := [(6, _), (5, _), (4, _), (0, _), (1, _), (2, _), (3, _)]) Z dX2_first_55 rfl (Nat.le_of_ble_eq_true rfl) rfl ?_
              refine x_goto Z 17 dX2_first_58 (by decide) ?_
              first | exact ih17 (i + 1) i (by omega) ⟨by omega, by omega, by omega, by omega, by rw [← hif, forI_s (i := i) (by omega), fst9_t (P := fun j => so (M.2.1 t j) q) c38 (by first | exact Or.inl c42 | exact Or.inr c48)]⟩ | exact ih17 (i + 1) v (by omega) ⟨by omega, by omega, by omega, by omega, by rw [← hif, forI_s (i := i) (by omega), fst9_f (P := fun j => so (M.2.1 t j) q) (by first | exact Or.inl c38 | exact Or.inr ⟨c42, c48⟩)]⟩
            ·
              refine x_iload Z dX2_first_51 rfl ?_
              refine x_istore (L' := [(5, _), (6, _), (4, _), (0, _), (1, _), (2, _), (3, _)]) Z dX2_first_53 (Nat.le_of_ble_eq_true rfl) rfl ?_
              refine x_iinc (L' := [(6, _), (5, _), (4, _), (0, _), (1, _), (2, _), (3, _)]) Z dX2_first_55 rfl (Nat.le_of_ble_eq_true rfl) rfl ?_
              refine x_goto Z 17 dX2_first_58 (by decide) ?_
              first | exact ih17 (i + 1) i (by omega) ⟨by omega, by omega, by omega, by omega, by rw [← hif, forI_s (i := i) (by omega), fst9_t (P := fun j => so (M.2.1 t j) q) c38 (by first | exact Or.inl c42 | exact Or.inr c48)]⟩ | exact ih17 (i + 1) v (by omega) ⟨by omega, by omega, by omega, by omega, by rw [← hif, forI_s (i := i) (by omega), fst9_f (P := fun j => so (M.2.1 t j) q) (by first | exact Or.inl c38 | exact Or.inr ⟨c42, c48⟩)]⟩
  exact loop17 40 0 (-1) (by omega) ⟨by omega, by omega, by omega, by omega, rfl⟩
abbrev rmc_X2_alike : Room := { frames := 7, cells := 2, slots := 12, locals := 121 }
set_option maxRecDepth 100000 in
theorem c_X2_alike {l : Launch} {s0 : State} {G : gK} {w : wd} (h0 : gS0 s0) (htr : l.stackTraces = false) {K : kA} {M : kM} {t : Int} {u : Int} (hS : kS G w K M) (ht : inr t) (hu : inr u) : gM l s0 G yX2_alike [Cond.code yX2_alike cX2_alike 6 (some .boolean)] rmc_X2_alike [rv K.1, iv t, iv u] w (fun v w' => (v = some (iv (b2 (decide (M.1 t = M.1 u ∧ findI (fun j => decide (kin (M.2.1 t j) ≠ kin (M.2.1 u j))) 0 (M.1 t) = M.1 t)))) ∧ w' = w) ∧ (0 ≤ t ∧ t < 3) ∧ 0 ≤ u ∧ u < 3) (fun X w' => X = "java/lang/IndexOutOfBoundsException" ∧ w' = w ∧ ¬ ((0 ≤ t ∧ t < 3) ∧ 0 ≤ u ∧ u < 3)) := by
  refine g_of h0 htr (by decide +kernel) (Nat.le_of_ble_eq_true rfl) ?_
  intro b Z0 E
  have Z : gAm b l s0 G cX2_alike RX2 6 rmc_X2_alike := Z0
  refine x_el (L' := [(0, rv K.1), (1, iv t), (2, iv u)]) rfl ?_
  obtain ⟨hk1, ⟨f0, hk2, hk3⟩, hk4, hk5⟩ := id hS
  have hf0 : fr (kP K) w w := fr.rf
  refine x_aload_n Z dX2_alike_0 rfl rfl ?_
  refine x_iload_n Z dX2_alike_1 rfl rfl ?_
  refine x_callVx (ci := 3) (C := RX2) (T := TX2) (N := 4) Z okX2_textAt q313 q315 q3 rfl dX2_alike_2 (c_X2_textAt h0 htr hS (by assumption)) hS.1 ⟨Nat.le_of_ble_eq_true rfl, Nat.le_of_ble_eq_true rfl, Nat.le_of_ble_eq_true rfl, Nat.le_of_ble_eq_true rfl⟩ rfl rfl (Nat.le_of_ble_eq_true rfl) (fun X w9 hX => x_out Z E (⟨hX.1, hX.2.1, fun h => hX.2.2 (by omega)⟩) (Nat.le_of_ble_eq_true rfl) (Nat.le_of_ble_eq_true rfl)) (fun v9 w9 hR => ?_)
  obtain ⟨⟨rfl, e9⟩, hp0t, hp3t⟩ := hR
  refine x_ew e9 ?_
  simp only [Option.toList_some, Option.toList_none, List.cons_append, List.nil_append]
  obtain ⟨B, ht⟩ := hS.2.2.1 t hp0t hp3t
  obtain ⟨ha, hr, hb, hn0, hn30, hC⟩ := id ht
  have hm0 := hn0
  have hm30 := hn30
  have hmC := hC
  refine x_astore_n (L' := [(3, _), (0, _), (1, _), (2, _)]) Z dX2_alike_5 rfl (Nat.le_of_ble_eq_true rfl) rfl ?_
  refine x_aload_n Z dX2_alike_6 rfl rfl ?_
  refine x_iload_n Z dX2_alike_7 rfl rfl ?_
  refine x_callVx (ci := 3) (C := RX2) (T := TX2) (N := 4) Z okX2_textAt q313 q315 q3 rfl dX2_alike_8 (c_X2_textAt h0 htr hS (by assumption)) hS.1 ⟨Nat.le_of_ble_eq_true rfl, Nat.le_of_ble_eq_true rfl, Nat.le_of_ble_eq_true rfl, Nat.le_of_ble_eq_true rfl⟩ rfl rfl (Nat.le_of_ble_eq_true rfl) (fun X w9 hX => x_out Z E (⟨hX.1, hX.2.1, fun h => hX.2.2 (by omega)⟩) (Nat.le_of_ble_eq_true rfl) (Nat.le_of_ble_eq_true rfl)) (fun v9 w9 hR => ?_)
  obtain ⟨⟨rfl, e9⟩, hp0u, hp3u⟩ := hR
  refine x_ew e9 ?_
  simp only [Option.toList_some, Option.toList_none, List.cons_append, List.nil_append]
  obtain ⟨B2, ht2⟩ := hS.2.2.1 u hp0u hp3u
  refine x_astore (L' := [(4, _), (3, _), (0, _), (1, _), (2, _)]) Z dX2_alike_11 (Nat.le_of_ble_eq_true rfl) rfl ?_
  obtain ⟨-, -, -, h2n0, h2n30, hC2⟩ := id ht2
  refine x_aload_n Z dX2_alike_13 rfl rfl ?_
  refine x_callV (ci := 2) (C := RX1) (T := TX1) (N := 3) Z okX1_size q217 q218 q219 rfl dX2_alike_14 (c_X1_size h0 htr ht) ht.1 ⟨Nat.le_of_ble_eq_true rfl, Nat.le_of_ble_eq_true rfl, Nat.le_of_ble_eq_true rfl, Nat.le_of_ble_eq_true rfl⟩ rfl rfl (Nat.le_of_ble_eq_true rfl) (fun v9 w9 hR => ?_)
  obtain ⟨rfl, e9⟩ := hR
  refine x_ew e9 ?_
  simp only [Option.toList_some, Option.toList_none, List.cons_append, List.nil_append]
  refine x_aload Z dX2_alike_17 rfl ?_
  refine x_callV (ci := 2) (C := RX1) (T := TX1) (N := 3) Z okX1_size q217 q218 q219 rfl dX2_alike_19 (c_X1_size h0 htr ht2) ht2.1 ⟨Nat.le_of_ble_eq_true rfl, Nat.le_of_ble_eq_true rfl, Nat.le_of_ble_eq_true rfl, Nat.le_of_ble_eq_true rfl⟩ rfl rfl (Nat.le_of_ble_eq_true rfl) (fun v9 w9 hR => ?_)
  obtain ⟨rfl, e9⟩ := hR
  refine x_ew e9 ?_
  simp only [Option.toList_some, Option.toList_none, List.cons_append, List.nil_append]
  refine x_icmp_eq Z 27 dX2_alike_22 (by decide) ⟨by omega, by omega⟩ ⟨by omega, by omega⟩ (fun c22 => ?_) (fun c22 => ?_)
  ·
    refine x_iconst Z dX2_alike_27 ?_
    refine x_istore (L' := [(5, _), (4, _), (3, _), (0, _), (1, _), (2, _)]) Z dX2_alike_28 (Nat.le_of_ble_eq_true rfl) rfl ?_
    have loop30 : ∀ (fu : Nat) (i : Int), M.1 t - i < (fu : Int) → (0 ≤ i ∧ i ≤ M.1 t ∧ findI (fun j => decide (kin (M.2.1 t j) ≠ kin (M.2.1 u j))) i (M.1 t) = findI (fun j => decide (kin (M.2.1 t j) ≠ kin (M.2.1 u j))) 0 (M.1 t)) → gX b s0 G (2) (12) 30 [(5, iv i), (4, rv (K.2.2.1 u)), (3, rv (K.2.2.1 t)), (0, rv K.1), (1, iv t), (2, iv u)] [] (w) := by
      intro fu; induction fu with
      | zero => intro i hm hv; exact absurd hm (by omega)
      | succ fu ih30 =>
        intro i hm hv
        obtain ⟨hi0, hin, hif⟩ := hv
        have hka := kin_in (M.2.1 t i)
        have hkb := kin_in (M.2.1 u i)
        refine x_iload Z dX2_alike_30 rfl ?_
        refine x_aload_n Z dX2_alike_32 rfl rfl ?_
        refine x_callV (ci := 2) (C := RX1) (T := TX1) (N := 3) Z okX1_size q217 q218 q219 rfl dX2_alike_33 (c_X1_size h0 htr ht) ht.1 ⟨Nat.le_of_ble_eq_true rfl, Nat.le_of_ble_eq_true rfl, Nat.le_of_ble_eq_true rfl, Nat.le_of_ble_eq_true rfl⟩ rfl rfl (Nat.le_of_ble_eq_true rfl) (fun v9 w9 hR => ?_)
        obtain ⟨rfl, e9⟩ := hR
        refine x_ew e9 ?_
        simp only [Option.toList_some, Option.toList_none, List.cons_append, List.nil_append]
        refine x_icmp_ge Z 63 dX2_alike_36 (by decide) ⟨by omega, by omega⟩ ⟨by omega, by omega⟩ (fun c36 => ?_) (fun c36 => ?_)
        ·
          refine x_ib true Z dX2_alike_63 (by decide) ?_
          exact x_zret Z E (⟨⟨by rw [← hif, findI_e (by omega), decide_eq_true (by omega)], rfl⟩, by omega⟩) dX2_alike_64 (Nat.le_of_ble_eq_true rfl) (Nat.le_of_ble_eq_true rfl)
        ·
          refine x_aload_n Z dX2_alike_39 rfl rfl ?_
          refine x_iload Z dX2_alike_40 rfl ?_
          refine x_callV (ci := 2) (C := RX1) (T := TX1) (N := 3) Z okX1_kindAt q887 q201 q202 rfl dX2_alike_42 (c_X1_kindAt h0 htr ht (by omega) (by omega)) ht.1 ⟨Nat.le_of_ble_eq_true rfl, Nat.le_of_ble_eq_true rfl, Nat.le_of_ble_eq_true rfl, Nat.le_of_ble_eq_true rfl⟩ rfl rfl (Nat.le_of_ble_eq_true rfl) (fun v9 w9 hR => ?_)
          obtain ⟨rfl, e9⟩ := hR
          refine x_ew e9 ?_
          simp only [Option.toList_some, Option.toList_none, List.cons_append, List.nil_append]
          refine x_aload Z dX2_alike_45 rfl ?_
          refine x_iload Z dX2_alike_47 rfl ?_
          refine x_callV (ci := 2) (C := RX1) (T := TX1) (N := 3) Z okX1_kindAt q887 q201 q202 rfl dX2_alike_49 (c_X1_kindAt h0 htr ht2 (by omega) (by omega)) ht2.1 ⟨Nat.le_of_ble_eq_true rfl, Nat.le_of_ble_eq_true rfl, Nat.le_of_ble_eq_true rfl, Nat.le_of_ble_eq_true rfl⟩ rfl rfl (Nat.le_of_ble_eq_true rfl) (fun v9 w9 hR => ?_)
          obtain ⟨rfl, e9⟩ := hR
          refine x_ew e9 ?_
          simp only [Option.toList_some, Option.toList_none, List.cons_append, List.nil_append]
          refine x_icmp_eq Z 57 dX2_alike_52 (by decide) ⟨by omega, by omega⟩ ⟨by omega, by omega⟩ (fun c52 => ?_) (fun c52 => ?_)
          ·
            refine x_iinc (L' := [(5, _), (4, _), (3, _), (0, _), (1, _), (2, _)]) Z dX2_alike_57 rfl (Nat.le_of_ble_eq_true rfl) rfl ?_
            refine x_goto Z 30 dX2_alike_60 (by decide) ?_
            exact ih30 (i + 1) (by omega) ⟨by omega, by omega, by rw [← hif]; exact (findI_m (by omega) (by simpa using c52)).symm⟩
          ·
            refine x_ib false Z dX2_alike_55 (by decide) ?_
            exact x_zret Z E (⟨⟨by rw [← hif, findI_h (by simpa using c52), decide_eq_false (by omega)], rfl⟩, by omega⟩) dX2_alike_56 (Nat.le_of_ble_eq_true rfl) (Nat.le_of_ble_eq_true rfl)
    exact loop30 40 0 (by omega) ⟨by omega, by omega, rfl⟩
  ·
    refine x_ib false Z dX2_alike_25 (by decide) ?_
    exact x_zret Z E (⟨⟨by rw [decide_eq_false (by omega)], rfl⟩, by omega⟩) dX2_alike_26 (Nat.le_of_ble_eq_true rfl) (Nat.le_of_ble_eq_true rfl)
abbrev rmc_X2_isName : Room := { frames := 7, cells := 1, slots := 6, locals := 121 }
set_option maxRecDepth 100000 in
theorem c_X2_isName {l : Launch} {s0 : State} {G : gK} {w : wd} (h0 : gS0 s0) (htr : l.stackTraces = false) {K : kA} {M : kM} {t : Int} (hS : kS G w K M) (ht : inr t) : gM l s0 G yX2_isName [Cond.code yX2_isName cX2_isName 2 (some .boolean)] rmc_X2_isName [rv K.1, iv t] w (fun v w' => (v = some (iv (b2 (decide (0 < M.1 t ∧ sb (M.2.1 t 0) = 0 ∧ lon (M.1 t) (M.2.1 t) 0 = M.1 t)))) ∧ w' = w) ∧ 0 ≤ t ∧ t < 3) (fun X w' => X = "java/lang/IndexOutOfBoundsException" ∧ w' = w ∧ ¬ (0 ≤ t ∧ t < 3)) := by
  refine g_of h0 htr (by decide +kernel) (Nat.le_of_ble_eq_true rfl) ?_
  intro b Z0 E
  have Z : gAm b l s0 G cX2_isName RX2 2 rmc_X2_isName := Z0
  refine x_el (L' := [(0, rv K.1), (1, iv t)]) rfl ?_
  obtain ⟨hk1, ⟨f0, hk2, hk3⟩, hk4, hk5⟩ := id hS
  have hf0 : fr (kP K) w w := fr.rf
  refine x_aload_n Z dX2_isName_0 rfl rfl ?_
  refine x_iload_n Z dX2_isName_1 rfl rfl ?_
  refine x_callVx (ci := 3) (C := RX2) (T := TX2) (N := 4) Z okX2_textAt q313 q315 q3 rfl dX2_isName_2 (c_X2_textAt h0 htr hS (by assumption)) hS.1 ⟨Nat.le_of_ble_eq_true rfl, Nat.le_of_ble_eq_true rfl, Nat.le_of_ble_eq_true rfl, Nat.le_of_ble_eq_true rfl⟩ rfl rfl (Nat.le_of_ble_eq_true rfl) (fun X w9 hX => x_out Z E (⟨hX.1, hX.2.1, fun h => hX.2.2 (by omega)⟩) (Nat.le_of_ble_eq_true rfl) (Nat.le_of_ble_eq_true rfl)) (fun v9 w9 hR => ?_)
  obtain ⟨⟨rfl, e9⟩, hp0t, hp3t⟩ := hR
  refine x_ew e9 ?_
  simp only [Option.toList_some, Option.toList_none, List.cons_append, List.nil_append]
  obtain ⟨B, ht⟩ := hS.2.2.1 t hp0t hp3t
  obtain ⟨ha, hr, hb, hn0, hn30, hC⟩ := id ht
  have hm0 := hn0
  have hm30 := hn30
  have hmC := hC
  refine x_callV (ci := 2) (C := RX1) (T := TX1) (N := 3) Z okX1_isNamed q225 q177 q178 rfl dX2_isName_5 (c_X1_isNamed h0 htr ht) ht.1 ⟨Nat.le_of_ble_eq_true rfl, Nat.le_of_ble_eq_true rfl, Nat.le_of_ble_eq_true rfl, Nat.le_of_ble_eq_true rfl⟩ rfl rfl (Nat.le_of_ble_eq_true rfl) (fun v9 w9 hR => ?_)
  obtain ⟨rfl, e9⟩ := hR
  refine x_ew e9 ?_
  simp only [Option.toList_some, Option.toList_none, List.cons_append, List.nil_append]
  exact x_zret Z E (⟨⟨rfl, rfl⟩, by omega⟩) dX2_isName_8 (Nat.le_of_ble_eq_true rfl) (Nat.le_of_ble_eq_true rfl)
abbrev rmc_X2_fault : Room := { frames := 7, cells := 1, slots := 6, locals := 121 }
set_option maxRecDepth 100000 in
theorem c_X2_fault {l : Launch} {s0 : State} {G : gK} {w : wd} (h0 : gS0 s0) (htr : l.stackTraces = false) {K : kA} {M : kM} {t : Int} (hS : kS G w K M) (ht : inr t) : gM l s0 G yX2_fault [Cond.code yX2_fault cX2_fault 2 (some .int)] rmc_X2_fault [rv K.1, iv t] w (fun v w' => (v = some (iv (if findI (fun j => !so (M.2.1 t j) (cond (decide (j = 0)) 11 12)) 0 (M.1 t) < M.1 t then findI (fun j => !so (M.2.1 t j) (cond (decide (j = 0)) 11 12)) 0 (M.1 t) else if M.1 t = 0 then 0 else -1)) ∧ w' = w) ∧ 0 ≤ t ∧ t < 3) (fun X w' => X = "java/lang/IndexOutOfBoundsException" ∧ w' = w ∧ ¬ (0 ≤ t ∧ t < 3)) := by
  refine g_of h0 htr (by decide +kernel) (Nat.le_of_ble_eq_true rfl) ?_
  intro b Z0 E
  have Z : gAm b l s0 G cX2_fault RX2 2 rmc_X2_fault := Z0
  refine x_el (L' := [(0, rv K.1), (1, iv t)]) rfl ?_
  obtain ⟨hk1, ⟨f0, hk2, hk3⟩, hk4, hk5⟩ := id hS
  have hf0 : fr (kP K) w w := fr.rf
  refine x_aload_n Z dX2_fault_0 rfl rfl ?_
  refine x_iload_n Z dX2_fault_1 rfl rfl ?_
  refine x_callVx (ci := 3) (C := RX2) (T := TX2) (N := 4) Z okX2_textAt q313 q315 q3 rfl dX2_fault_2 (c_X2_textAt h0 htr hS (by assumption)) hS.1 ⟨Nat.le_of_ble_eq_true rfl, Nat.le_of_ble_eq_true rfl, Nat.le_of_ble_eq_true rfl, Nat.le_of_ble_eq_true rfl⟩ rfl rfl (Nat.le_of_ble_eq_true rfl) (fun X w9 hX => x_out Z E (⟨hX.1, hX.2.1, fun h => hX.2.2 (by omega)⟩) (Nat.le_of_ble_eq_true rfl) (Nat.le_of_ble_eq_true rfl)) (fun v9 w9 hR => ?_)
  obtain ⟨⟨rfl, e9⟩, hp0t, hp3t⟩ := hR
  refine x_ew e9 ?_
  simp only [Option.toList_some, Option.toList_none, List.cons_append, List.nil_append]
  obtain ⟨B, ht⟩ := hS.2.2.1 t hp0t hp3t
  obtain ⟨ha, hr, hb, hn0, hn30, hC⟩ := id ht
  have hm0 := hn0
  have hm30 := hn30
  have hmC := hC
  refine x_callV (ci := 2) (C := RX1) (T := TX1) (N := 3) Z okX1_firstFault q938 q181 q182 rfl dX2_fault_5 (c_X1_firstFault h0 htr ht) ht.1 ⟨Nat.le_of_ble_eq_true rfl, Nat.le_of_ble_eq_true rfl, Nat.le_of_ble_eq_true rfl, Nat.le_of_ble_eq_true rfl⟩ rfl rfl (Nat.le_of_ble_eq_true rfl) (fun v9 w9 hR => ?_)
  obtain ⟨rfl, e9⟩ := hR
  refine x_ew e9 ?_
  simp only [Option.toList_some, Option.toList_none, List.cons_append, List.nil_append]
  exact x_iret Z E (⟨⟨rfl, rfl⟩, by omega⟩) dX2_fault_8 (Nat.le_of_ble_eq_true rfl) (Nat.le_of_ble_eq_true rfl)
abbrev rmc_X2_sort : Room := { frames := 7, cells := 2, slots := 12, locals := 121 }
set_option maxRecDepth 100000 in
theorem c_X2_sort {l : Launch} {s0 : State} {G : gK} {w : wd} (h0 : gS0 s0) (htr : l.stackTraces = false) {K : kA} {M : kM} {t : Int} {f : Int} {g : Int} (hS : kS G w K M) (ht : inr t) (hf : inr f) (hg : inr g) : gM l s0 G yX2_sort [Cond.code yX2_sort cX2_sort 5 (some .int)] rmc_X2_sort [rv K.1, iv t, iv f, iv g] w (fun v w' => (v = some (iv (if g - f ≤ lon (M.1 t) (M.2.1 t) f then sb (M.2.1 t f) else -1)) ∧ w' = w) ∧ (0 ≤ t ∧ t < 3) ∧ 0 ≤ f ∧ f < g ∧ g ≤ M.1 t) (fun X w' => X = "java/lang/IndexOutOfBoundsException" ∧ w' = w ∧ ¬ ((0 ≤ t ∧ t < 3) ∧ 0 ≤ f ∧ f < g ∧ g ≤ M.1 t)) := by
  refine g_of h0 htr (by decide +kernel) (Nat.le_of_ble_eq_true rfl) ?_
  intro b Z0 E
  have Z : gAm b l s0 G cX2_sort RX2 5 rmc_X2_sort := Z0
  refine x_el (L' := [(0, rv K.1), (1, iv t), (2, iv f), (3, iv g)]) rfl ?_
  obtain ⟨hk1, ⟨f0, hk2, hk3⟩, hk4, hk5⟩ := id hS
  have hf0 : fr (kP K) w w := fr.rf
  refine x_aload_n Z dX2_sort_0 rfl rfl ?_
  refine x_iload_n Z dX2_sort_1 rfl rfl ?_
  refine x_callVx (ci := 3) (C := RX2) (T := TX2) (N := 4) Z okX2_textAt q313 q315 q3 rfl dX2_sort_2 (c_X2_textAt h0 htr hS (by assumption)) hS.1 ⟨Nat.le_of_ble_eq_true rfl, Nat.le_of_ble_eq_true rfl, Nat.le_of_ble_eq_true rfl, Nat.le_of_ble_eq_true rfl⟩ rfl rfl (Nat.le_of_ble_eq_true rfl) (fun X w9 hX => x_out Z E (⟨hX.1, hX.2.1, fun h => hX.2.2 (by omega)⟩) (Nat.le_of_ble_eq_true rfl) (Nat.le_of_ble_eq_true rfl)) (fun v9 w9 hR => ?_)
  obtain ⟨⟨rfl, e9⟩, hp0t, hp3t⟩ := hR
  refine x_ew e9 ?_
  simp only [Option.toList_some, Option.toList_none, List.cons_append, List.nil_append]
  obtain ⟨B, ht⟩ := hS.2.2.1 t hp0t hp3t
  obtain ⟨ha, hr, hb, hn0, hn30, hC⟩ := id ht
  have hm0 := hn0
  have hm30 := hn30
  have hmC := hC
  refine x_astore (L' := [(4, _), (0, _), (1, _), (2, _), (3, _)]) Z dX2_sort_5 (Nat.le_of_ble_eq_true rfl) rfl ?_
  refine x_iload_n Z dX2_sort_7 rfl rfl ?_
  refine x_if_lt Z 25 dX2_sort_8 (by decide) ⟨by omega, by omega⟩ (fun c8 => ?_) (fun c8 => ?_)
  ·
    exact x_thr Z E (cls := "java/lang/IndexOutOfBoundsException") (ik := 47) (ic := 49) (by decide +kernel) wsIO dX2_sort_25 dX2_sort_28 dX2_sort_29 dX2_sort_32 (Nat.le_of_ble_eq_true rfl) (Nat.le_of_ble_eq_true rfl) (Nat.le_of_ble_eq_true rfl) (Nat.le_of_ble_eq_true rfl) ⟨rfl, rfl, by omega⟩
  ·
    refine x_iload_n Z dX2_sort_11 rfl rfl ?_
    refine x_iload_n Z dX2_sort_12 rfl rfl ?_
    refine x_icmp_ge Z 25 dX2_sort_13 (by decide) ⟨by omega, by omega⟩ ⟨by omega, by omega⟩ (fun c13 => ?_) (fun c13 => ?_)
    ·
      exact x_thr Z E (cls := "java/lang/IndexOutOfBoundsException") (ik := 47) (ic := 49) (by decide +kernel) wsIO dX2_sort_25 dX2_sort_28 dX2_sort_29 dX2_sort_32 (Nat.le_of_ble_eq_true rfl) (Nat.le_of_ble_eq_true rfl) (Nat.le_of_ble_eq_true rfl) (Nat.le_of_ble_eq_true rfl) ⟨rfl, rfl, by omega⟩
    ·
      refine x_iload_n Z dX2_sort_16 rfl rfl ?_
      refine x_aload Z dX2_sort_17 rfl ?_
      refine x_callV (ci := 2) (C := RX1) (T := TX1) (N := 3) Z okX1_size q217 q218 q219 rfl dX2_sort_19 (c_X1_size h0 htr ht) ht.1 ⟨Nat.le_of_ble_eq_true rfl, Nat.le_of_ble_eq_true rfl, Nat.le_of_ble_eq_true rfl, Nat.le_of_ble_eq_true rfl⟩ rfl rfl (Nat.le_of_ble_eq_true rfl) (fun v9 w9 hR => ?_)
      obtain ⟨rfl, e9⟩ := hR
      refine x_ew e9 ?_
      simp only [Option.toList_some, Option.toList_none, List.cons_append, List.nil_append]
      refine x_icmp_le Z 33 dX2_sort_22 (by decide) ⟨by omega, by omega⟩ ⟨by omega, by omega⟩ (fun c22 => ?_) (fun c22 => ?_)
      ·
        refine x_aload Z dX2_sort_33 rfl ?_
        refine x_iload_n Z dX2_sort_35 rfl rfl ?_
        refine x_iload_n Z dX2_sort_36 rfl rfl ?_
        refine x_callV (ci := 2) (C := RX1) (T := TX1) (N := 3) Z okX1_sortOf q946 q947 q948 rfl dX2_sort_37 (c_X1_sortOf h0 htr ht (by omega) (by omega) (by omega)) ht.1 ⟨Nat.le_of_ble_eq_true rfl, Nat.le_of_ble_eq_true rfl, Nat.le_of_ble_eq_true rfl, Nat.le_of_ble_eq_true rfl⟩ rfl rfl (Nat.le_of_ble_eq_true rfl) (fun v9 w9 hR => ?_)
        obtain ⟨rfl, e9⟩ := hR
        refine x_ew e9 ?_
        simp only [Option.toList_some, Option.toList_none, List.cons_append, List.nil_append]
        exact x_iret Z E (⟨⟨rfl, rfl⟩, by omega⟩) dX2_sort_40 (Nat.le_of_ble_eq_true rfl) (Nat.le_of_ble_eq_true rfl)
      ·
        exact x_thr Z E (cls := "java/lang/IndexOutOfBoundsException") (ik := 47) (ic := 49) (by decide +kernel) wsIO dX2_sort_25 dX2_sort_28 dX2_sort_29 dX2_sort_32 (Nat.le_of_ble_eq_true rfl) (Nat.le_of_ble_eq_true rfl) (Nat.le_of_ble_eq_true rfl) (Nat.le_of_ble_eq_true rfl) ⟨rfl, rfl, by omega⟩
abbrev rmc_X2_longest : Room := { frames := 7, cells := 2, slots := 12, locals := 121 }
set_option maxRecDepth 100000 in
theorem c_X2_longest {l : Launch} {s0 : State} {G : gK} {w : wd} (h0 : gS0 s0) (htr : l.stackTraces = false) {K : kA} {M : kM} {t : Int} {p : Int} (hS : kS G w K M) (ht : inr t) (hp : inr p) : gM l s0 G yX2_longest [Cond.code yX2_longest cX2_longest 4 (some .int)] rmc_X2_longest [rv K.1, iv t, iv p] w (fun v w' => (v = some (iv (lon (M.1 t) (M.2.1 t) p)) ∧ w' = w) ∧ (0 ≤ t ∧ t < 3) ∧ 0 ≤ p ∧ p < M.1 t) (fun X w' => X = "java/lang/IndexOutOfBoundsException" ∧ w' = w ∧ ¬ ((0 ≤ t ∧ t < 3) ∧ 0 ≤ p ∧ p < M.1 t)) := by
  refine g_of h0 htr (by decide +kernel) (Nat.le_of_ble_eq_true rfl) ?_
  intro b Z0 E
  have Z : gAm b l s0 G cX2_longest RX2 4 rmc_X2_longest := Z0
  refine x_el (L' := [(0, rv K.1), (1, iv t), (2, iv p)]) rfl ?_
  obtain ⟨hk1, ⟨f0, hk2, hk3⟩, hk4, hk5⟩ := id hS
  have hf0 : fr (kP K) w w := fr.rf
  refine x_aload_n Z dX2_longest_0 rfl rfl ?_
  refine x_iload_n Z dX2_longest_1 rfl rfl ?_
  refine x_callVx (ci := 3) (C := RX2) (T := TX2) (N := 4) Z okX2_textAt q313 q315 q3 rfl dX2_longest_2 (c_X2_textAt h0 htr hS (by assumption)) hS.1 ⟨Nat.le_of_ble_eq_true rfl, Nat.le_of_ble_eq_true rfl, Nat.le_of_ble_eq_true rfl, Nat.le_of_ble_eq_true rfl⟩ rfl rfl (Nat.le_of_ble_eq_true rfl) (fun X w9 hX => x_out Z E (⟨hX.1, hX.2.1, fun h => hX.2.2 (by omega)⟩) (Nat.le_of_ble_eq_true rfl) (Nat.le_of_ble_eq_true rfl)) (fun v9 w9 hR => ?_)
  obtain ⟨⟨rfl, e9⟩, hp0t, hp3t⟩ := hR
  refine x_ew e9 ?_
  simp only [Option.toList_some, Option.toList_none, List.cons_append, List.nil_append]
  obtain ⟨B, ht⟩ := hS.2.2.1 t hp0t hp3t
  obtain ⟨ha, hr, hb, hn0, hn30, hC⟩ := id ht
  have hm0 := hn0
  have hm30 := hn30
  have hmC := hC
  refine x_astore_n (L' := [(3, _), (0, _), (1, _), (2, _)]) Z dX2_longest_5 rfl (Nat.le_of_ble_eq_true rfl) rfl ?_
  refine x_aload_n Z dX2_longest_6 rfl rfl ?_
  refine x_iload_n Z dX2_longest_7 rfl rfl ?_
  refine x_callSx Z okX2_checkPlace q362 q363 dX2_longest_8 (c_X2_checkPlace h0 htr ht (by assumption)) ⟨Nat.le_of_ble_eq_true rfl, Nat.le_of_ble_eq_true rfl, Nat.le_of_ble_eq_true rfl, Nat.le_of_ble_eq_true rfl⟩ rfl rfl (Nat.le_of_ble_eq_true rfl) (fun X w9 hX => x_out Z E (⟨hX.1, hX.2.1, fun h => hX.2.2 (by omega)⟩) (Nat.le_of_ble_eq_true rfl) (Nat.le_of_ble_eq_true rfl)) (fun v9 w9 hR => ?_)
  obtain ⟨⟨rfl, e9⟩, hl0, hl9⟩ := hR
  refine x_ew e9 ?_
  simp only [Option.toList_some, Option.toList_none, List.cons_append, List.nil_append]
  refine x_aload_n Z dX2_longest_11 rfl rfl ?_
  refine x_iload_n Z dX2_longest_12 rfl rfl ?_
  refine x_callV (ci := 2) (C := RX1) (T := TX1) (N := 3) Z okX1_longestAt q485 q122 q123 rfl dX2_longest_13 (c_X1_longestAt h0 htr ht (by omega) (by omega)) ht.1 ⟨Nat.le_of_ble_eq_true rfl, Nat.le_of_ble_eq_true rfl, Nat.le_of_ble_eq_true rfl, Nat.le_of_ble_eq_true rfl⟩ rfl rfl (Nat.le_of_ble_eq_true rfl) (fun v9 w9 hR => ?_)
  obtain ⟨rfl, e9⟩ := hR
  refine x_ew e9 ?_
  simp only [Option.toList_some, Option.toList_none, List.cons_append, List.nil_append]
  exact x_iret Z E (⟨⟨rfl, rfl⟩, by omega⟩) dX2_longest_16 (Nat.le_of_ble_eq_true rfl) (Nat.le_of_ble_eq_true rfl)
abbrev rmc_X2_pieces : Room := { frames := 7, cells := 1, slots := 6, locals := 121 }
set_option maxRecDepth 100000 in
theorem c_X2_pieces {l : Launch} {s0 : State} {G : gK} {w : wd} (h0 : gS0 s0) (htr : l.stackTraces = false) {K : kA} {M : kM} {t : Int} (hS : kS G w K M) (ht : inr t) : gM l s0 G yX2_pieces [Cond.code yX2_pieces cX2_pieces 2 (some .int)] rmc_X2_pieces [rv K.1, iv t] w (fun v w' => (v = some (iv (bcn (beg (M.1 t) (M.2.1 t)))) ∧ w' = w) ∧ 0 ≤ t ∧ t < 3) (fun X w' => X = "java/lang/IndexOutOfBoundsException" ∧ w' = w ∧ ¬ (0 ≤ t ∧ t < 3)) := by
  refine g_of h0 htr (by decide +kernel) (Nat.le_of_ble_eq_true rfl) ?_
  intro b Z0 E
  have Z : gAm b l s0 G cX2_pieces RX2 2 rmc_X2_pieces := Z0
  refine x_el (L' := [(0, rv K.1), (1, iv t)]) rfl ?_
  obtain ⟨hk1, ⟨f0, hk2, hk3⟩, hk4, hk5⟩ := id hS
  have hf0 : fr (kP K) w w := fr.rf
  refine x_aload_n Z dX2_pieces_0 rfl rfl ?_
  refine x_iload_n Z dX2_pieces_1 rfl rfl ?_
  refine x_callVx (ci := 3) (C := RX2) (T := TX2) (N := 4) Z okX2_textAt q313 q315 q3 rfl dX2_pieces_2 (c_X2_textAt h0 htr hS (by assumption)) hS.1 ⟨Nat.le_of_ble_eq_true rfl, Nat.le_of_ble_eq_true rfl, Nat.le_of_ble_eq_true rfl, Nat.le_of_ble_eq_true rfl⟩ rfl rfl (Nat.le_of_ble_eq_true rfl) (fun X w9 hX => x_out Z E (⟨hX.1, hX.2.1, fun h => hX.2.2 (by omega)⟩) (Nat.le_of_ble_eq_true rfl) (Nat.le_of_ble_eq_true rfl)) (fun v9 w9 hR => ?_)
  obtain ⟨⟨rfl, e9⟩, hp0t, hp3t⟩ := hR
  refine x_ew e9 ?_
  simp only [Option.toList_some, Option.toList_none, List.cons_append, List.nil_append]
  obtain ⟨B, ht⟩ := hS.2.2.1 t hp0t hp3t
  obtain ⟨ha, hr, hb, hn0, hn30, hC⟩ := id ht
  have hm0 := hn0
  have hm30 := hn30
  have hmC := hC
  refine x_callV (ci := 2) (C := RX1) (T := TX1) (N := 3) Z okX1_begins q964 q118 q119 rfl dX2_pieces_5 (c_X1_begins h0 htr ht) ht.1 ⟨Nat.le_of_ble_eq_true rfl, Nat.le_of_ble_eq_true rfl, Nat.le_of_ble_eq_true rfl, Nat.le_of_ble_eq_true rfl⟩ rfl rfl (Nat.le_of_ble_eq_true rfl) (fun v9 w9 hR => ?_)
  obtain ⟨rfl, e9⟩ := hR
  refine x_ew e9 ?_
  simp only [Option.toList_some, Option.toList_none, List.cons_append, List.nil_append]
  refine x_callS Z okJ6_bitCount_0f7a4 q895 q155 dX2_pieces_8 (c_J6_bitCount_0f7a4 h0 htr ) ⟨Nat.le_of_ble_eq_true rfl, Nat.le_of_ble_eq_true rfl, Nat.le_of_ble_eq_true rfl, Nat.le_of_ble_eq_true rfl⟩ rfl rfl (Nat.le_of_ble_eq_true rfl) (fun v9 w9 hR => ?_)
  obtain ⟨rfl, e9⟩ := hR
  refine x_ew e9 ?_
  simp only [Option.toList_some, Option.toList_none, List.cons_append, List.nil_append]
  exact x_iret Z E (⟨⟨rfl, rfl⟩, by omega⟩) dX2_pieces_11 (Nat.le_of_ble_eq_true rfl) (Nat.le_of_ble_eq_true rfl)
abbrev rmc_X2_piece : Room := { frames := 7, cells := 3, slots := 18, locals := 156 }
set_option maxRecDepth 100000 in
theorem c_X2_piece {l : Launch} {s0 : State} {G : gK} {w : wd} (h0 : gS0 s0) (htr : l.stackTraces = false) {K : kA} {M : kM} {t : Int} {k1 : Int} {m : Int} (hS : kS G w K M) (ht : inr t) (hk1 : inr k1) (hm : inr m) : gM l s0 G yX2_piece [Cond.code yX2_piece cX2_piece 6 (some .int)] rmc_X2_piece [rv K.1, iv t, iv k1, iv m] w (fun v w' => (v = some (iv (if m = 0 then (pbg (M.1 t) (M.2.1 t) k1) else if m = 1 then (lon (M.1 t) (M.2.1 t) (pbg (M.1 t) (M.2.1 t) k1)) else sb (M.2.1 t (pbg (M.1 t) (M.2.1 t) k1)))) ∧ w' = w) ∧ (((0 ≤ t ∧ t < 3) ∧ 0 ≤ k1 ∧ 0 ≤ (pbg (M.1 t) (M.2.1 t) k1)) ∧ 0 ≤ m ∧ m ≤ 2)) (fun X w' => ((X = "java/lang/IndexOutOfBoundsException" ∧ ¬ ((0 ≤ t ∧ t < 3) ∧ 0 ≤ k1 ∧ 0 ≤ (pbg (M.1 t) (M.2.1 t) k1))) ∨ (X = "java/lang/IllegalArgumentException" ∧ ((0 ≤ t ∧ t < 3) ∧ 0 ≤ k1 ∧ 0 ≤ (pbg (M.1 t) (M.2.1 t) k1)) ∧ ¬ (0 ≤ m ∧ m ≤ 2))) ∧ w' = w) := by
  refine g_of h0 htr (by decide +kernel) (Nat.le_of_ble_eq_true rfl) ?_
  intro b Z0 E
  have Z : gAm b l s0 G cX2_piece RX2 6 rmc_X2_piece := Z0
  refine x_el (L' := [(0, rv K.1), (1, iv t), (2, iv k1), (3, iv m)]) rfl ?_
  obtain ⟨hk1, ⟨f0, hk2, hk3⟩, hk4, hk5⟩ := id hS
  have hf0 : fr (kP K) w w := fr.rf
  refine x_aload_n Z dX2_piece_0 rfl rfl ?_
  refine x_iload_n Z dX2_piece_1 rfl rfl ?_
  refine x_callVx (ci := 3) (C := RX2) (T := TX2) (N := 4) Z okX2_textAt q313 q315 q3 rfl dX2_piece_2 (c_X2_textAt h0 htr hS (by assumption)) hS.1 ⟨Nat.le_of_ble_eq_true rfl, Nat.le_of_ble_eq_true rfl, Nat.le_of_ble_eq_true rfl, Nat.le_of_ble_eq_true rfl⟩ rfl rfl (Nat.le_of_ble_eq_true rfl) (fun X w9 hX => x_out Z E (⟨Or.inl ⟨hX.1, fun h => hX.2.2 (by omega)⟩, hX.2.1⟩) (Nat.le_of_ble_eq_true rfl) (Nat.le_of_ble_eq_true rfl)) (fun v9 w9 hR => ?_)
  obtain ⟨⟨rfl, e9⟩, hp0t, hp3t⟩ := hR
  refine x_ew e9 ?_
  simp only [Option.toList_some, Option.toList_none, List.cons_append, List.nil_append]
  obtain ⟨B, ht⟩ := hS.2.2.1 t hp0t hp3t
  obtain ⟨ha, hr, hb, hn0, hn30, hC⟩ := id ht
  have hm0 := hn0
  have hm30 := hn30
  have hmC := hC
  refine x_astore (L' := [(4, _), (0, _), (1, _), (2, _), (3, _)]) Z dX2_piece_5 (Nat.le_of_ble_eq_true rfl) rfl ?_
  refine x_aload Z dX2_piece_7 rfl ?_
  refine x_iload_n Z dX2_piece_9 rfl rfl ?_
  refine x_callSx Z okX2_beginOfPiece q478 q479 dX2_piece_10 (c_X2_beginOfPiece h0 htr ht (by assumption)) ⟨Nat.le_of_ble_eq_true rfl, Nat.le_of_ble_eq_true rfl, Nat.le_of_ble_eq_true rfl, Nat.le_of_ble_eq_true rfl⟩ rfl rfl (Nat.le_of_ble_eq_true rfl) (fun X w9 hX => x_out Z E (⟨Or.inl ⟨hX.1, fun h => hX.2.2 (by omega)⟩, hX.2.1⟩) (Nat.le_of_ble_eq_true rfl) (Nat.le_of_ble_eq_true rfl)) (fun v9 w9 hR => ?_)
  obtain ⟨⟨rfl, e9⟩, hz1, hz0, hz9⟩ := hR
  refine x_ew e9 ?_
  simp only [Option.toList_some, Option.toList_none, List.cons_append, List.nil_append]
  refine x_istore (L' := [(5, _), (4, _), (0, _), (1, _), (2, _), (3, _)]) Z dX2_piece_13 (Nat.le_of_ble_eq_true rfl) rfl ?_
  refine x_iload_n Z dX2_piece_15 rfl rfl ?_
  rcases (by omega : (m < 0 ∨ 2 < m) ∨ m = 0 ∨ m = 1 ∨ m = 2) with hs | hs | hs | hs
  ·
    refine x_tabOut Z 66 dX2_piece_16 ⟨by omega, by omega⟩ (by omega) (by decide) ?_
    exact x_thr Z E (cls := "java/lang/IllegalArgumentException") (ik := 71) (ic := 73) (by decide +kernel) wsIA dX2_piece_66 dX2_piece_69 dX2_piece_70 dX2_piece_73 (Nat.le_of_ble_eq_true rfl) (Nat.le_of_ble_eq_true rfl) (Nat.le_of_ble_eq_true rfl) (Nat.le_of_ble_eq_true rfl) ⟨Or.inr ⟨rfl, by omega, by omega⟩, rfl⟩
  ·
    refine x_tabIn Z 44 dX2_piece_16 ⟨by omega, by omega⟩ (by omega) (by omega) (by rw [hs]; rfl) (by decide) ?_
    refine x_iload Z dX2_piece_44 rfl ?_
    exact x_iret Z E (⟨⟨by rw [if_pos hs], rfl⟩, by omega⟩) dX2_piece_46 (Nat.le_of_ble_eq_true rfl) (Nat.le_of_ble_eq_true rfl)
  ·
    refine x_tabIn Z 47 dX2_piece_16 ⟨by omega, by omega⟩ (by omega) (by omega) (by rw [hs]; rfl) (by decide) ?_
    refine x_aload Z dX2_piece_47 rfl ?_
    refine x_iload Z dX2_piece_49 rfl ?_
    refine x_callV (ci := 2) (C := RX1) (T := TX1) (N := 3) Z okX1_longestAt q485 q122 q123 rfl dX2_piece_51 (c_X1_longestAt h0 htr ht (by omega) (by omega)) ht.1 ⟨Nat.le_of_ble_eq_true rfl, Nat.le_of_ble_eq_true rfl, Nat.le_of_ble_eq_true rfl, Nat.le_of_ble_eq_true rfl⟩ rfl rfl (Nat.le_of_ble_eq_true rfl) (fun v9 w9 hR => ?_)
    obtain ⟨rfl, e9⟩ := hR
    refine x_ew e9 ?_
    simp only [Option.toList_some, Option.toList_none, List.cons_append, List.nil_append]
    exact x_iret Z E (⟨⟨by rw [if_neg (by omega), if_pos hs], rfl⟩, by omega⟩) dX2_piece_54 (Nat.le_of_ble_eq_true rfl) (Nat.le_of_ble_eq_true rfl)
  ·
    refine x_tabIn Z 55 dX2_piece_16 ⟨by omega, by omega⟩ (by omega) (by omega) (by rw [hs]; rfl) (by decide) ?_
    refine x_aload Z dX2_piece_55 rfl ?_
    refine x_iload Z dX2_piece_57 rfl ?_
    refine x_callV (ci := 2) (C := RX1) (T := TX1) (N := 3) Z okX1_signAt q365 q126 q127 rfl dX2_piece_59 (c_X1_signAt h0 htr ht (by omega) (by omega)) ht.1 ⟨Nat.le_of_ble_eq_true rfl, Nat.le_of_ble_eq_true rfl, Nat.le_of_ble_eq_true rfl, Nat.le_of_ble_eq_true rfl⟩ rfl rfl (Nat.le_of_ble_eq_true rfl) (fun v9 w9 hR => ?_)
    obtain ⟨rfl, e9⟩ := hR
    refine x_ew e9 ?_
    simp only [Option.toList_some, Option.toList_none, List.cons_append, List.nil_append]
    have hCz := hC (pbg (M.1 t) (M.2.1 t) k1)
    refine x_callS Z okX0_sortBegunBy q972 q130 dX2_piece_62 (c_X0_sortBegunBy h0 htr (by omega) (by omega)) ⟨Nat.le_of_ble_eq_true rfl, Nat.le_of_ble_eq_true rfl, Nat.le_of_ble_eq_true rfl, Nat.le_of_ble_eq_true rfl⟩ rfl rfl (Nat.le_of_ble_eq_true rfl) (fun v9 w9 hR => ?_)
    obtain ⟨rfl, e9⟩ := hR
    refine x_ew e9 ?_
    simp only [Option.toList_some, Option.toList_none, List.cons_append, List.nil_append]
    exact x_iret Z E (⟨⟨by rw [if_neg (by omega), if_neg (by omega)], rfl⟩, by omega⟩) dX2_piece_65 (Nat.le_of_ble_eq_true rfl) (Nat.le_of_ble_eq_true rfl)
abbrev rmc_X2_cuts : Room := { frames := 7, cells := 1, slots := 6, locals := 121 }
set_option maxRecDepth 100000 in
theorem c_X2_cuts {l : Launch} {s0 : State} {G : gK} {w : wd} (h0 : gS0 s0) (htr : l.stackTraces = false) {K : kA} {M : kM} {t : Int} (hS : kS G w K M) (ht : inr t) : gM l s0 G yX2_cuts [Cond.code yX2_cuts cX2_cuts 2 (some .int)] rmc_X2_cuts [rv K.1, iv t] w (fun v w' => (v = some (iv (bAnd (beg (M.1 t) (M.2.1 t)) (-2))) ∧ w' = w) ∧ 0 ≤ t ∧ t < 3) (fun X w' => X = "java/lang/IndexOutOfBoundsException" ∧ w' = w ∧ ¬ (0 ≤ t ∧ t < 3)) := by
  refine g_of h0 htr (by decide +kernel) (Nat.le_of_ble_eq_true rfl) ?_
  intro b Z0 E
  have Z : gAm b l s0 G cX2_cuts RX2 2 rmc_X2_cuts := Z0
  refine x_el (L' := [(0, rv K.1), (1, iv t)]) rfl ?_
  obtain ⟨hk1, ⟨f0, hk2, hk3⟩, hk4, hk5⟩ := id hS
  have hf0 : fr (kP K) w w := fr.rf
  refine x_aload_n Z dX2_cuts_0 rfl rfl ?_
  refine x_iload_n Z dX2_cuts_1 rfl rfl ?_
  refine x_callVx (ci := 3) (C := RX2) (T := TX2) (N := 4) Z okX2_textAt q313 q315 q3 rfl dX2_cuts_2 (c_X2_textAt h0 htr hS (by assumption)) hS.1 ⟨Nat.le_of_ble_eq_true rfl, Nat.le_of_ble_eq_true rfl, Nat.le_of_ble_eq_true rfl, Nat.le_of_ble_eq_true rfl⟩ rfl rfl (Nat.le_of_ble_eq_true rfl) (fun X w9 hX => x_out Z E (⟨hX.1, hX.2.1, fun h => hX.2.2 (by omega)⟩) (Nat.le_of_ble_eq_true rfl) (Nat.le_of_ble_eq_true rfl)) (fun v9 w9 hR => ?_)
  obtain ⟨⟨rfl, e9⟩, hp0t, hp3t⟩ := hR
  refine x_ew e9 ?_
  simp only [Option.toList_some, Option.toList_none, List.cons_append, List.nil_append]
  obtain ⟨B, ht⟩ := hS.2.2.1 t hp0t hp3t
  obtain ⟨ha, hr, hb, hn0, hn30, hC⟩ := id ht
  have hm0 := hn0
  have hm30 := hn30
  have hmC := hC
  refine x_callV (ci := 2) (C := RX1) (T := TX1) (N := 3) Z okX1_begins q964 q118 q119 rfl dX2_cuts_5 (c_X1_begins h0 htr ht) ht.1 ⟨Nat.le_of_ble_eq_true rfl, Nat.le_of_ble_eq_true rfl, Nat.le_of_ble_eq_true rfl, Nat.le_of_ble_eq_true rfl⟩ rfl rfl (Nat.le_of_ble_eq_true rfl) (fun v9 w9 hR => ?_)
  obtain ⟨rfl, e9⟩ := hR
  refine x_ew e9 ?_
  simp only [Option.toList_some, Option.toList_none, List.cons_append, List.nil_append]
  refine x_callS Z okX2_cutsOf q988 q152 dX2_cuts_8 (c_X2_cutsOf h0 htr ) ⟨Nat.le_of_ble_eq_true rfl, Nat.le_of_ble_eq_true rfl, Nat.le_of_ble_eq_true rfl, Nat.le_of_ble_eq_true rfl⟩ rfl rfl (Nat.le_of_ble_eq_true rfl) (fun v9 w9 hR => ?_)
  obtain ⟨rfl, e9⟩ := hR
  refine x_ew e9 ?_
  simp only [Option.toList_some, Option.toList_none, List.cons_append, List.nil_append]
  exact x_iret Z E (⟨⟨rfl, rfl⟩, by omega⟩) dX2_cuts_11 (Nat.le_of_ble_eq_true rfl) (Nat.le_of_ble_eq_true rfl)
abbrev rmc_X2_back : Room := { frames := 7, cells := 1, slots := 6, locals := 121 }
set_option maxRecDepth 100000 in
theorem c_X2_back {l : Launch} {s0 : State} {G : gK} {w : wd} (h0 : gS0 s0) (htr : l.stackTraces = false) {K : kA} {M : kM} {t : Int} (hS : kS G w K M) (ht : inr t) : gM l s0 G yX2_back [Cond.code yX2_back cX2_back 2 (some .int)] rmc_X2_back [rv K.1, iv t] w (fun v w' => (∃ z : Int, v = some (iv z) ∧ (inr z ∧ ∃ h : Nat, bkM (M.1 t) (M.2.1 t) false h z ∧ bkc (M.1 t) (M.2.1 t) h = 0) ∧ kS G w' K M ∧ fr (kP K) w w') ∧ 0 ≤ t ∧ t < 3) (fun X w' => X = "java/lang/IndexOutOfBoundsException" ∧ w' = w ∧ ¬ (0 ≤ t ∧ t < 3)) := by
  refine g_of h0 htr (by decide +kernel) (Nat.le_of_ble_eq_true rfl) ?_
  intro b Z0 E
  have Z : gAm b l s0 G cX2_back RX2 2 rmc_X2_back := Z0
  refine x_el (L' := [(0, rv K.1), (1, iv t)]) rfl ?_
  obtain ⟨hk1, ⟨f0, hk2, hk3⟩, hk4, hk5⟩ := id hS
  have hf0 : fr (kP K) w w := fr.rf
  refine x_aload_n Z dX2_back_0 rfl rfl ?_
  refine x_iload_n Z dX2_back_1 rfl rfl ?_
  refine x_callVx (ci := 3) (C := RX2) (T := TX2) (N := 4) Z okX2_textAt q313 q315 q3 rfl dX2_back_2 (c_X2_textAt h0 htr hS (by assumption)) hS.1 ⟨Nat.le_of_ble_eq_true rfl, Nat.le_of_ble_eq_true rfl, Nat.le_of_ble_eq_true rfl, Nat.le_of_ble_eq_true rfl⟩ rfl rfl (Nat.le_of_ble_eq_true rfl) (fun X w9 hX => x_out Z E (⟨hX.1, hX.2.1, fun h => hX.2.2 (by omega)⟩) (Nat.le_of_ble_eq_true rfl) (Nat.le_of_ble_eq_true rfl)) (fun v9 w9 hR => ?_)
  obtain ⟨⟨rfl, e9⟩, hp0t, hp3t⟩ := hR
  refine x_ew e9 ?_
  simp only [Option.toList_some, Option.toList_none, List.cons_append, List.nil_append]
  obtain ⟨B, ht⟩ := hS.2.2.1 t hp0t hp3t
  obtain ⟨ha, hr, hb, hn0, hn30, hC⟩ := id ht
  have hm0 := hn0
  have hm30 := hn30
  have hmC := hC
  refine x_callV (ci := 2) (C := RX1) (T := TX1) (N := 3) Z okX1_backBegins q996 q161 q162 rfl dX2_back_5 (c_X1_backBegins h0 htr ht) ht.1 ⟨Nat.le_of_ble_eq_true rfl, Nat.le_of_ble_eq_true rfl, Nat.le_of_ble_eq_true rfl, Nat.le_of_ble_eq_true rfl⟩ rfl rfl (Nat.le_of_ble_eq_true rfl) (fun v9 w9 hR => ?_)
  obtain ⟨z, rfl, hz, hzk, B, ht, hf9⟩ := hR
  obtain ⟨ha, hr, hb, hn0, hn30, hC⟩ := id ht
  simp only [Option.toList_some, Option.toList_none, List.cons_append, List.nil_append]
  have hS := kS_putB hS hp0t hp3t ht hf9
  have hf0 := hf0.tr (hf9.mono (kP_t hp0t hp3t))
  refine x_callS Z okX2_cutsOf q988 q152 dX2_back_8 (c_X2_cutsOf h0 htr ) ⟨Nat.le_of_ble_eq_true rfl, Nat.le_of_ble_eq_true rfl, Nat.le_of_ble_eq_true rfl, Nat.le_of_ble_eq_true rfl⟩ rfl rfl (Nat.le_of_ble_eq_true rfl) (fun v9 w9 hR => ?_)
  obtain ⟨rfl, e9⟩ := hR
  refine x_ew e9 ?_
  simp only [Option.toList_some, Option.toList_none, List.cons_append, List.nil_append]
  exact x_iret Z E (⟨⟨_, rfl, ⟨bAnd_in _ _, hzk.imp (fun _ e => ⟨bkM_c e.1, e.2⟩)⟩, hS, hf0⟩, by omega⟩) dX2_back_11 (Nat.le_of_ble_eq_true rfl) (Nat.le_of_ble_eq_true rfl)
abbrev rmc_X2_fewest : Room := { frames := 7, cells := 1, slots := 6, locals := 121 }
set_option maxRecDepth 100000 in
theorem c_X2_fewest {l : Launch} {s0 : State} {G : gK} {w : wd} (h0 : gS0 s0) (htr : l.stackTraces = false) {K : kA} {M : kM} {t : Int} (hS : kS G w K M) (ht : inr t) : gM l s0 G yX2_fewest [Cond.code yX2_fewest cX2_fewest 2 (some .int)] rmc_X2_fewest [rv K.1, iv t] w (fun v w' => (∃ z : Int, v = some (iv z) ∧ (∃ B : Int → Int, fwP (M.1 t) (M.2.1 t) B ∧ z = B (M.1 t)) ∧ kS G w' K M ∧ fr (kP K) w w') ∧ 0 ≤ t ∧ t < 3) (fun X w' => X = "java/lang/IndexOutOfBoundsException" ∧ w' = w ∧ ¬ (0 ≤ t ∧ t < 3)) := by
  refine g_of h0 htr (by decide +kernel) (Nat.le_of_ble_eq_true rfl) ?_
  intro b Z0 E
  have Z : gAm b l s0 G cX2_fewest RX2 2 rmc_X2_fewest := Z0
  refine x_el (L' := [(0, rv K.1), (1, iv t)]) rfl ?_
  obtain ⟨hk1, ⟨f0, hk2, hk3⟩, hk4, hk5⟩ := id hS
  have hf0 : fr (kP K) w w := fr.rf
  refine x_aload_n Z dX2_fewest_0 rfl rfl ?_
  refine x_iload_n Z dX2_fewest_1 rfl rfl ?_
  refine x_callVx (ci := 3) (C := RX2) (T := TX2) (N := 4) Z okX2_textAt q313 q315 q3 rfl dX2_fewest_2 (c_X2_textAt h0 htr hS (by assumption)) hS.1 ⟨Nat.le_of_ble_eq_true rfl, Nat.le_of_ble_eq_true rfl, Nat.le_of_ble_eq_true rfl, Nat.le_of_ble_eq_true rfl⟩ rfl rfl (Nat.le_of_ble_eq_true rfl) (fun X w9 hX => x_out Z E (⟨hX.1, hX.2.1, fun h => hX.2.2 (by omega)⟩) (Nat.le_of_ble_eq_true rfl) (Nat.le_of_ble_eq_true rfl)) (fun v9 w9 hR => ?_)
  obtain ⟨⟨rfl, e9⟩, hp0t, hp3t⟩ := hR
  refine x_ew e9 ?_
  simp only [Option.toList_some, Option.toList_none, List.cons_append, List.nil_append]
  obtain ⟨B, ht⟩ := hS.2.2.1 t hp0t hp3t
  obtain ⟨ha, hr, hb, hn0, hn30, hC⟩ := id ht
  have hm0 := hn0
  have hm30 := hn30
  have hmC := hC
  refine x_callV (ci := 2) (C := RX1) (T := TX1) (N := 3) Z okX1_fewestPieces q1004 q165 q166 rfl dX2_fewest_5 (c_X1_fewestPieces h0 htr ht) ht.1 ⟨Nat.le_of_ble_eq_true rfl, Nat.le_of_ble_eq_true rfl, Nat.le_of_ble_eq_true rfl, Nat.le_of_ble_eq_true rfl⟩ rfl rfl (Nat.le_of_ble_eq_true rfl) (fun v9 w9 hR => ?_)
  obtain ⟨z, rfl, hz, hzf, B, ht, hf9⟩ := hR
  obtain ⟨ha, hr, hb, hn0, hn30, hC⟩ := id ht
  simp only [Option.toList_some, Option.toList_none, List.cons_append, List.nil_append]
  have hS := kS_putB hS hp0t hp3t ht hf9
  have hf0 := hf0.tr (hf9.mono (kP_t hp0t hp3t))
  exact x_iret Z E (⟨⟨_, rfl, hzf, hS, hf0⟩, by omega⟩) dX2_fewest_8 (Nat.le_of_ble_eq_true rfl) (Nat.le_of_ble_eq_true rfl)
abbrev rmc_X2_parted : Room := { frames := 7, cells := 2, slots := 12, locals := 121 }
set_option maxRecDepth 100000 in
theorem c_X2_parted {l : Launch} {s0 : State} {G : gK} {w : wd} (h0 : gS0 s0) (htr : l.stackTraces = false) {K : kA} {M : kM} {t : Int} {m : Int} (hS : kS G w K M) (ht : inr t) (hm : inr m) : gM l s0 G yX2_parted [Cond.code yX2_parted cX2_parted 4 (some .int)] rmc_X2_parted [rv K.1, iv t, iv m] w (fun v w' => (v = some (iv (ptI (M.1 t) (M.2.1 t) m 1 0 0)) ∧ w' = w) ∧ ((0 ≤ t ∧ t < 3) ∧ cutS (M.1 t) m)) (fun X w' => ((X = "java/lang/IndexOutOfBoundsException" ∧ ¬ (0 ≤ t ∧ t < 3)) ∨ (X = "java/lang/IllegalArgumentException" ∧ (0 ≤ t ∧ t < 3) ∧ ¬ (cutS (M.1 t) m))) ∧ w' = w) := by
  refine g_of h0 htr (by decide +kernel) (Nat.le_of_ble_eq_true rfl) ?_
  intro b Z0 E
  have Z : gAm b l s0 G cX2_parted RX2 4 rmc_X2_parted := Z0
  refine x_el (L' := [(0, rv K.1), (1, iv t), (2, iv m)]) rfl ?_
  obtain ⟨hk1, ⟨f0, hk2, hk3⟩, hk4, hk5⟩ := id hS
  have hf0 : fr (kP K) w w := fr.rf
  refine x_aload_n Z dX2_parted_0 rfl rfl ?_
  refine x_iload_n Z dX2_parted_1 rfl rfl ?_
  refine x_callVx (ci := 3) (C := RX2) (T := TX2) (N := 4) Z okX2_textAt q313 q315 q3 rfl dX2_parted_2 (c_X2_textAt h0 htr hS (by assumption)) hS.1 ⟨Nat.le_of_ble_eq_true rfl, Nat.le_of_ble_eq_true rfl, Nat.le_of_ble_eq_true rfl, Nat.le_of_ble_eq_true rfl⟩ rfl rfl (Nat.le_of_ble_eq_true rfl) (fun X w9 hX => x_out Z E (⟨Or.inl ⟨hX.1, fun h => hX.2.2 h⟩, hX.2.1⟩) (Nat.le_of_ble_eq_true rfl) (Nat.le_of_ble_eq_true rfl)) (fun v9 w9 hR => ?_)
  obtain ⟨⟨rfl, e9⟩, hp0t, hp3t⟩ := hR
  refine x_ew e9 ?_
  simp only [Option.toList_some, Option.toList_none, List.cons_append, List.nil_append]
  obtain ⟨B, ht⟩ := hS.2.2.1 t hp0t hp3t
  obtain ⟨ha, hr, hb, hn0, hn30, hC⟩ := id ht
  have hm0 := hn0
  have hm30 := hn30
  have hmC := hC
  refine x_astore_n (L' := [(3, _), (0, _), (1, _), (2, _)]) Z dX2_parted_5 rfl (Nat.le_of_ble_eq_true rfl) rfl ?_
  refine x_iload_n Z dX2_parted_6 rfl rfl ?_
  refine x_if_lt Z 24 dX2_parted_7 (by decide) ⟨by omega, by omega⟩ (fun c7 => ?_) (fun c7 => ?_)
  ·
    exact x_thr Z E (cls := "java/lang/IllegalArgumentException") (ik := 71) (ic := 73) (by decide +kernel) wsIA dX2_parted_24 dX2_parted_27 dX2_parted_28 dX2_parted_31 (Nat.le_of_ble_eq_true rfl) (Nat.le_of_ble_eq_true rfl) (Nat.le_of_ble_eq_true rfl) (Nat.le_of_ble_eq_true rfl) ⟨Or.inr ⟨rfl, by omega, by first | exact fun h => absurd h.1 (by omega) | exact fun h => c21 (hct.mpr h)⟩, rfl⟩
  ·
    refine x_iload_n Z dX2_parted_10 rfl rfl ?_
    refine x_aload_n Z dX2_parted_11 rfl rfl ?_
    refine x_callV (ci := 2) (C := RX1) (T := TX1) (N := 3) Z okX1_allPlaces q381 q382 q383 rfl dX2_parted_12 (c_X1_allPlaces h0 htr ht) ht.1 ⟨Nat.le_of_ble_eq_true rfl, Nat.le_of_ble_eq_true rfl, Nat.le_of_ble_eq_true rfl, Nat.le_of_ble_eq_true rfl⟩ rfl rfl (Nat.le_of_ble_eq_true rfl) (fun v9 w9 hR => ?_)
    obtain ⟨rfl, e9⟩ := hR
    refine x_ew e9 ?_
    simp only [Option.toList_some, Option.toList_none, List.cons_append, List.nil_append]
    refine x_callS Z okX2_cutsOf q988 q152 dX2_parted_15 (c_X2_cutsOf h0 htr ) ⟨Nat.le_of_ble_eq_true rfl, Nat.le_of_ble_eq_true rfl, Nat.le_of_ble_eq_true rfl, Nat.le_of_ble_eq_true rfl⟩ rfl rfl (Nat.le_of_ble_eq_true rfl) (fun v9 w9 hR => ?_)
    obtain ⟨rfl, e9⟩ := hR
    refine x_ew e9 ?_
    simp only [Option.toList_some, Option.toList_none, List.cons_append, List.nil_append]
    refine x_iconst Z dX2_parted_18 ?_
    refine x_ixor Z dX2_parted_19 ?_
    refine x_iand Z dX2_parted_20 ?_
    have hb9 := bAnd_in m (bXor (bAnd (bShl 1 (M.1 t) - 1) (-2)) (-1))
    have hct := cutS_iff hm0 hm30 (m := m) (by omega) (by omega)
    refine x_if_eq Z 32 dX2_parted_21 (by decide) ⟨by omega, by omega⟩ (fun c21 => ?_) (fun c21 => ?_)
    ·
      refine x_aload_n Z dX2_parted_32 rfl rfl ?_
      refine x_iload_n Z dX2_parted_33 rfl rfl ?_
      refine x_callV (ci := 2) (C := RX1) (T := TX1) (N := 3) Z okX1_piecesCutAt q1012 q172 q173 rfl dX2_parted_34 (c_X1_piecesCutAt h0 htr ht) ht.1 ⟨Nat.le_of_ble_eq_true rfl, Nat.le_of_ble_eq_true rfl, Nat.le_of_ble_eq_true rfl, Nat.le_of_ble_eq_true rfl⟩ rfl rfl (Nat.le_of_ble_eq_true rfl) (fun v9 w9 hR => ?_)
      obtain ⟨rfl, e9⟩ := hR
      refine x_ew e9 ?_
      simp only [Option.toList_some, Option.toList_none, List.cons_append, List.nil_append]
      exact x_iret Z E (⟨⟨rfl, rfl⟩, by omega, hct.mp c21⟩) dX2_parted_37 (Nat.le_of_ble_eq_true rfl) (Nat.le_of_ble_eq_true rfl)
    ·
      exact x_thr Z E (cls := "java/lang/IllegalArgumentException") (ik := 71) (ic := 73) (by decide +kernel) wsIA dX2_parted_24 dX2_parted_27 dX2_parted_28 dX2_parted_31 (Nat.le_of_ble_eq_true rfl) (Nat.le_of_ble_eq_true rfl) (Nat.le_of_ble_eq_true rfl) (Nat.le_of_ble_eq_true rfl) ⟨Or.inr ⟨rfl, by omega, by first | exact fun h => absurd h.1 (by omega) | exact fun h => c21 (hct.mpr h)⟩, rfl⟩
abbrev rmc_X2_signsInAll : Room := { frames := 1, cells := 0, slots := 0, locals := 20 }
set_option maxRecDepth 100000 in
theorem c_X2_signsInAll {l : Launch} {s0 : State} {G : gK} {w : wd} (h0 : gS0 s0) (htr : l.stackTraces = false) {K : kA} {M : kM} (hS : kS G w K M) : gM l s0 G yX2_signsInAll [Cond.code yX2_signsInAll cX2_signsInAll 3 (some .int)] rmc_X2_signsInAll [rv K.1] w (fun v w' => v = some (iv (0 + M.1 0 + M.1 1 + M.1 2)) ∧ w' = w) (noX) := by
  refine g_of h0 htr (by decide +kernel) (Nat.le_of_ble_eq_true rfl) ?_
  intro b Z0 E
  have Z : gAm b l s0 G cX2_signsInAll RX2 3 rmc_X2_signsInAll := Z0
  refine x_el (L' := [(0, rv K.1)]) rfl ?_
  obtain ⟨hk1, ⟨f0, hk2, hk3⟩, hk4, hk5⟩ := id hS
  have hf0 : fr (kP K) w w := fr.rf
  refine x_iconst Z dX2_signsInAll_0 ?_
  refine x_istore_n (L' := [(1, _), (0, _)]) Z dX2_signsInAll_1 rfl (Nat.le_of_ble_eq_true rfl) rfl ?_
  refine x_iconst Z dX2_signsInAll_2 ?_
  refine x_istore_n (L' := [(2, _), (1, _), (0, _)]) Z dX2_signsInAll_3 rfl (Nat.le_of_ble_eq_true rfl) rfl ?_
  have loop4 : ∀ (fu : Nat) (i v : Int), 3 - i < (fu : Int) → (0 ≤ i ∧ i ≤ 3 ∧ v = (if i = 0 then 0 else if i = 1 then 0 + M.1 0 else if i = 2 then 0 + M.1 0 + M.1 1 else 0 + M.1 0 + M.1 1 + M.1 2)) → gX b s0 G (0) (0) 4 [(2, iv i), (1, iv v), (0, rv K.1)] [] (w) := by
    intro fu; induction fu with
    | zero => intro i v hm hv; exact absurd hm (by omega)
    | succ fu ih4 =>
      intro i v hm hv
      obtain ⟨hi0, hin, hif⟩ := hv
      refine x_iload_n Z dX2_signsInAll_4 rfl rfl ?_
      refine x_iconst Z dX2_signsInAll_5 ?_
      refine x_icmp_ge Z 27 dX2_signsInAll_6 (by decide) ⟨by omega, by omega⟩ ⟨by omega, by omega⟩ (fun c6 => ?_) (fun c6 => ?_)
      ·
        refine x_iload_n Z dX2_signsInAll_27 rfl rfl ?_
        exact x_iret Z E (⟨by rw [hif, show i = 3 by omega]; rfl, rfl⟩) dX2_signsInAll_28 (Nat.le_of_ble_eq_true rfl) (Nat.le_of_ble_eq_true rfl)
      ·
        refine x_iload_n Z dX2_signsInAll_9 rfl rfl ?_
        refine x_aload_n Z dX2_signsInAll_10 rfl rfl ?_
        refine x_getf (ci := 3) (j := 0) (C := RX2) (T := TX2) (N := 4) Z inX2g rfl (by decide) q84 rfl dX2_signsInAll_11 (by assumption) rfl ?_
        refine x_iload_n Z dX2_signsInAll_14 rfl rfl ?_
        refine x_aaldT Z dX2_signsInAll_15 hk2 (by decide) (by omega) (by omega) (hk3 i (by omega) (by omega)) ?_
        obtain ⟨B, ht⟩ := hS.2.2.1 i (by omega) (by omega)
        refine x_callV (ci := 2) (C := RX1) (T := TX1) (N := 3) Z okX1_size q217 q218 q219 rfl dX2_signsInAll_16 (c_X1_size h0 htr ht) ht.1 ⟨Nat.le_of_ble_eq_true rfl, Nat.le_of_ble_eq_true rfl, Nat.le_of_ble_eq_true rfl, Nat.le_of_ble_eq_true rfl⟩ rfl rfl (Nat.le_of_ble_eq_true rfl) (fun v9 w9 hR => ?_)
        obtain ⟨rfl, e9⟩ := hR
        refine x_ew e9 ?_
        simp only [Option.toList_some, Option.toList_none, List.cons_append, List.nil_append]
        refine x_iadd Z dX2_signsInAll_19 ?_
        refine x_istore_n (L' := [(1, _), (2, _), (0, _)]) Z dX2_signsInAll_20 rfl (Nat.le_of_ble_eq_true rfl) rfl ?_
        refine x_iinc (L' := [(2, _), (1, _), (0, _)]) Z dX2_signsInAll_21 rfl (Nat.le_of_ble_eq_true rfl) rfl ?_
        refine x_goto Z 4 dX2_signsInAll_24 (by decide) ?_
        exact ih4 (i + 1) _ (by omega) ⟨by omega, by omega, by rcases (by omega : i = 0 ∨ i = 1 ∨ i = 2) with e | e | e <;> subst e <;> rw [hif] <;> rfl⟩
  exact loop4 5 0 0 (by omega) ⟨by omega, by omega, rfl⟩
abbrev rmc_X2_namesInAll : Room := { frames := 5, cells := 0, slots := 0, locals := 107 }
set_option maxRecDepth 100000 in
theorem c_X2_namesInAll {l : Launch} {s0 : State} {G : gK} {w : wd} (h0 : gS0 s0) (htr : l.stackTraces = false) {K : kA} {M : kM} (hS : kS G w K M) : gM l s0 G yX2_namesInAll [Cond.code yX2_namesInAll cX2_namesInAll 3 (some .int)] rmc_X2_namesInAll [rv K.1] w (fun v w' => v = some (iv (forI (cst (fun i => decide (0 < M.1 i ∧ sb (M.2.1 i 0) = 0 ∧ lon (M.1 i) (M.2.1 i) 0 = M.1 i))) 0 3 0)) ∧ w' = w) (noX) := by
  refine g_of h0 htr (by decide +kernel) (Nat.le_of_ble_eq_true rfl) ?_
  intro b Z0 E
  have Z : gAm b l s0 G cX2_namesInAll RX2 3 rmc_X2_namesInAll := Z0
  refine x_el (L' := [(0, rv K.1)]) rfl ?_
  obtain ⟨hk1, ⟨f0, hk2, hk3⟩, hk4, hk5⟩ := id hS
  have hf0 : fr (kP K) w w := fr.rf
  refine x_iconst Z dX2_namesInAll_0 ?_
  refine x_istore_n (L' := [(1, _), (0, _)]) Z dX2_namesInAll_1 rfl (Nat.le_of_ble_eq_true rfl) rfl ?_
  refine x_iconst Z dX2_namesInAll_2 ?_
  refine x_istore_n (L' := [(2, _), (1, _), (0, _)]) Z dX2_namesInAll_3 rfl (Nat.le_of_ble_eq_true rfl) rfl ?_
  have loop4 : ∀ (fu : Nat) (i v : Int), 3 - i < (fu : Int) → (0 ≤ i ∧ i ≤ 3 ∧ forI (cst (fun i => decide (0 < M.1 i ∧ sb (M.2.1 i 0) = 0 ∧ lon (M.1 i) (M.2.1 i) 0 = M.1 i))) i 3 v = forI (cst (fun i => decide (0 < M.1 i ∧ sb (M.2.1 i 0) = 0 ∧ lon (M.1 i) (M.2.1 i) 0 = M.1 i))) 0 3 0) → gX b s0 G (0) (0) 4 [(2, iv i), (1, iv v), (0, rv K.1)] [] (w) := by
    intro fu; induction fu with
    | zero => intro i v hm hv; exact absurd hm (by omega)
    | succ fu ih4 =>
      intro i v hm hv
      obtain ⟨hi0, hin, hif⟩ := hv
      refine x_iload_n Z dX2_namesInAll_4 rfl rfl ?_
      refine x_iconst Z dX2_namesInAll_5 ?_
      refine x_icmp_ge Z 30 dX2_namesInAll_6 (by decide) ⟨by omega, by omega⟩ ⟨by omega, by omega⟩ (fun c6 => ?_) (fun c6 => ?_)
      ·
        refine x_iload_n Z dX2_namesInAll_30 rfl rfl ?_
        exact x_iret Z E (⟨by rw [← hif, forI_e (by omega)], rfl⟩) dX2_namesInAll_31 (Nat.le_of_ble_eq_true rfl) (Nat.le_of_ble_eq_true rfl)
      ·
        refine x_aload_n Z dX2_namesInAll_9 rfl rfl ?_
        refine x_getf (ci := 3) (j := 0) (C := RX2) (T := TX2) (N := 4) Z inX2g rfl (by decide) q84 rfl dX2_namesInAll_10 (by assumption) rfl ?_
        refine x_iload_n Z dX2_namesInAll_13 rfl rfl ?_
        refine x_aaldT Z dX2_namesInAll_14 hk2 (by decide) (by omega) (by omega) (hk3 i (by omega) (by omega)) ?_
        obtain ⟨B, ht⟩ := hS.2.2.1 i (by omega) (by omega)
        refine x_callV (ci := 2) (C := RX1) (T := TX1) (N := 3) Z okX1_isNamed q225 q177 q178 rfl dX2_namesInAll_15 (c_X1_isNamed h0 htr ht) ht.1 ⟨Nat.le_of_ble_eq_true rfl, Nat.le_of_ble_eq_true rfl, Nat.le_of_ble_eq_true rfl, Nat.le_of_ble_eq_true rfl⟩ rfl rfl (Nat.le_of_ble_eq_true rfl) (fun v9 w9 hR => ?_)
        obtain ⟨rfl, e9⟩ := hR
        refine x_ew e9 ?_
        simp only [Option.toList_some, Option.toList_none, List.cons_append, List.nil_append]
        refine x_ifb_eq Z 24 dX2_namesInAll_18 (by decide) (fun c18 => ?_) (fun c18 => ?_)
        ·
          refine x_iinc (L' := [(2, _), (1, _), (0, _)]) Z dX2_namesInAll_24 rfl (Nat.le_of_ble_eq_true rfl) rfl ?_
          refine x_goto Z 4 dX2_namesInAll_27 (by decide) ?_
          first | exact ih4 (i + 1) (v + 1) (by omega) ⟨by omega, by omega, by rw [← hif, forI_s (i := i) (by omega), cst_t (P := fun i => decide (0 < M.1 i ∧ sb (M.2.1 i 0) = 0 ∧ lon (M.1 i) (M.2.1 i) 0 = M.1 i)) c18]⟩ | exact ih4 (i + 1) v (by omega) ⟨by omega, by omega, by rw [← hif, forI_s (i := i) (by omega), cst_f (P := fun i => decide (0 < M.1 i ∧ sb (M.2.1 i 0) = 0 ∧ lon (M.1 i) (M.2.1 i) 0 = M.1 i)) c18]⟩
        ·
          refine x_iinc (L' := [(1, _), (2, _), (0, _)]) Z dX2_namesInAll_21 rfl (Nat.le_of_ble_eq_true rfl) rfl ?_
          refine x_iinc (L' := [(2, _), (1, _), (0, _)]) Z dX2_namesInAll_24 rfl (Nat.le_of_ble_eq_true rfl) rfl ?_
          refine x_goto Z 4 dX2_namesInAll_27 (by decide) ?_
          first | exact ih4 (i + 1) (v + 1) (by omega) ⟨by omega, by omega, by rw [← hif, forI_s (i := i) (by omega), cst_t (P := fun i => decide (0 < M.1 i ∧ sb (M.2.1 i 0) = 0 ∧ lon (M.1 i) (M.2.1 i) 0 = M.1 i)) c18]⟩ | exact ih4 (i + 1) v (by omega) ⟨by omega, by omega, by rw [← hif, forI_s (i := i) (by omega), cst_f (P := fun i => decide (0 < M.1 i ∧ sb (M.2.1 i 0) = 0 ∧ lon (M.1 i) (M.2.1 i) 0 = M.1 i)) c18]⟩
  exact loop4 5 0 0 (by omega) ⟨by omega, by omega, rfl⟩
abbrev rmc_X2_areKindsSound : Room := { frames := 1, cells := 0, slots := 0, locals := 20 }
set_option maxRecDepth 100000 in
theorem c_X2_areKindsSound {l : Launch} {s0 : State} {G : gK} {w : wd} (h0 : gS0 s0) (htr : l.stackTraces = false)   : gM l s0 G yX2_areKindsSound [Cond.code yX2_areKindsSound cX2_areKindsSound 3 (some .boolean)] rmc_X2_areKindsSound [] w (fun v w' => v = some (iv (b2 (true))) ∧ w' = w) (noX) := by
  refine g_of h0 htr (by decide +kernel) (Nat.le_of_ble_eq_true rfl) ?_
  intro b Z0 E
  have Z : gAm b l s0 G cX2_areKindsSound RX2 3 rmc_X2_areKindsSound := Z0
  refine x_el (L' := []) rfl ?_
  refine x_iconst Z dX2_areKindsSound_0 ?_
  refine x_istore_n (L' := [(0, _)]) Z dX2_areKindsSound_1 rfl (Nat.le_of_ble_eq_true rfl) rfl ?_
  refine x_iconst Z dX2_areKindsSound_2 ?_
  refine x_istore_n (L' := [(1, _), (0, _)]) Z dX2_areKindsSound_3 rfl (Nat.le_of_ble_eq_true rfl) rfl ?_
  have loop4 : ∀ (fu : Nat) (i v : Int), 256 - i < (fu : Int) → (0 ≤ i ∧ i ≤ 256 ∧ v = i) → gX b s0 G (0) (0) 4 [(1, iv i), (0, iv v)] [] (w) := by
    intro fu; induction fu with
    | zero => intro i v hm hv; exact absurd hm (by omega)
    | succ fu ih4 =>
      intro i v hm hv
      obtain ⟨hi0, hin, hif⟩ := hv
      have hki := kin_in i
      refine x_iload_n Z dX2_areKindsSound_4 rfl rfl ?_
      refine x_sipush Z dX2_areKindsSound_5 (by decide +kernel) ?_
      refine x_icmp_gt Z 35 dX2_areKindsSound_8 (by decide) ⟨by omega, by omega⟩ ⟨by omega, by omega⟩ (fun c8 => ?_) (fun c8 => ?_)
      ·
        refine x_iload_n Z dX2_areKindsSound_35 rfl rfl ?_
        refine x_sipush Z dX2_areKindsSound_36 (by decide +kernel) ?_
        refine x_icmp_ne Z 46 dX2_areKindsSound_39 (by decide) ⟨by omega, by omega⟩ ⟨by omega, by omega⟩ (fun c39 => ?_) (fun c39 => ?_)
        · exact absurd c39 (by omega)
        ·
          refine x_ib true Z dX2_areKindsSound_42 (by decide) ?_
          refine x_goto Z 47 dX2_areKindsSound_43 (by decide) ?_
          exact x_zret Z E (⟨rfl, rfl⟩) dX2_areKindsSound_47 (Nat.le_of_ble_eq_true rfl) (Nat.le_of_ble_eq_true rfl)
      ·
        refine x_iload_n Z dX2_areKindsSound_11 rfl rfl ?_
        refine x_callS Z okX0_kindNumber q108 q109 dX2_areKindsSound_12 (c_X0_kindNumber h0 htr (by omega) (by omega)) ⟨Nat.le_of_ble_eq_true rfl, Nat.le_of_ble_eq_true rfl, Nat.le_of_ble_eq_true rfl, Nat.le_of_ble_eq_true rfl⟩ rfl rfl (Nat.le_of_ble_eq_true rfl) (fun v9 w9 hR => ?_)
        obtain ⟨rfl, e9⟩ := hR
        refine x_ew e9 ?_
        simp only [Option.toList_some, Option.toList_none, List.cons_append, List.nil_append]
        refine x_istore_n (L' := [(2, _), (1, _), (0, _)]) Z dX2_areKindsSound_15 rfl (Nat.le_of_ble_eq_true rfl) rfl ?_
        refine x_iload_n Z dX2_areKindsSound_16 rfl rfl ?_
        refine x_if_lt Z 29 dX2_areKindsSound_17 (by decide) ⟨by omega, by omega⟩ (fun c17 => ?_) (fun c17 => ?_)
        · exact absurd c17 (by omega)
        ·
          refine x_iload_n Z dX2_areKindsSound_20 rfl rfl ?_
          refine x_bipush Z dX2_areKindsSound_21 (by decide +kernel) ?_
          refine x_icmp_gt Z 29 dX2_areKindsSound_23 (by decide) ⟨by omega, by omega⟩ ⟨by omega, by omega⟩ (fun c23 => ?_) (fun c23 => ?_)
          · exact absurd c23 (by omega)
          ·
            refine x_iinc (L' := [(0, _), (2, _), (1, _)]) Z dX2_areKindsSound_26 rfl (Nat.le_of_ble_eq_true rfl) rfl ?_
            refine x_iinc (L' := [(1, _), (0, _), (2, _)]) Z dX2_areKindsSound_29 rfl (Nat.le_of_ble_eq_true rfl) rfl ?_
            refine x_goto Z 4 dX2_areKindsSound_32 (by decide) ?_
            refine x_sub [0, 1] rfl ?_
            exact ih4 (i + 1) (v + 1) (by omega) ⟨by omega, by omega, by omega⟩
  exact loop4 300 0 0 (by omega) ⟨by omega, by omega, rfl⟩
abbrev rmc_X2_house : Room := { frames := 6, cells := 1, slots := 6, locals := 129 }
set_option maxRecDepth 100000 in
theorem c_X2_house {l : Launch} {s0 : State} {G : gK} {w : wd} (h0 : gS0 s0) (htr : l.stackTraces = false) {K : kA} {M : kM} {m : Int} (hS : kS G w K M) (hm : inr m) : gM l s0 G yX2_house [Cond.code yX2_house cX2_house 2 (some .int)] rmc_X2_house [rv K.1, iv m] w (fun v w' => (v = some (iv (if m = 0 then 0 + M.1 0 + M.1 1 + M.1 2 else if m = 1 then M.2.2.1 else if m = 2 then M.2.2.2.1 else if m = 3 then M.2.2.2.2 else forI (cst (fun i => decide (0 < M.1 i ∧ sb (M.2.1 i 0) = 0 ∧ lon (M.1 i) (M.2.1 i) 0 = M.1 i))) 0 3 0)) ∧ w' = w) ∧ 0 ≤ m ∧ m ≤ 4) (fun X w' => X = "java/lang/IllegalArgumentException" ∧ w' = w ∧ (m < 0 ∨ 4 < m)) := by
  refine g_of h0 htr (by decide +kernel) (Nat.le_of_ble_eq_true rfl) ?_
  intro b Z0 E
  have Z : gAm b l s0 G cX2_house RX2 2 rmc_X2_house := Z0
  refine x_el (L' := [(0, rv K.1), (1, iv m)]) rfl ?_
  obtain ⟨hk1, ⟨f0, hk2, hk3⟩, hk4, hk5⟩ := id hS
  have hf0 : fr (kP K) w w := fr.rf
  refine x_iload_n Z dX2_house_0 rfl rfl ?_
  rcases (by omega : (m < 0 ∨ 4 < m) ∨ m = 0 ∨ m = 1 ∨ m = 2 ∨ m = 3 ∨ m = 4) with hs | hs | hs | hs | hs | hs
  ·
    refine x_tabOut Z 61 dX2_house_1 ⟨by omega, by omega⟩ (by omega) (by decide) ?_
    exact x_thr Z E (cls := "java/lang/IllegalArgumentException") (ik := 71) (ic := 73) (by decide +kernel) wsIA dX2_house_61 dX2_house_64 dX2_house_65 dX2_house_68 (Nat.le_of_ble_eq_true rfl) (Nat.le_of_ble_eq_true rfl) (Nat.le_of_ble_eq_true rfl) (Nat.le_of_ble_eq_true rfl) ⟨rfl, rfl, by omega⟩
  ·
    refine x_tabIn Z 36 dX2_house_1 ⟨by omega, by omega⟩ (by omega) (by omega) (by rw [hs]; rfl) (by decide) ?_
    refine x_aload_n Z dX2_house_36 rfl rfl ?_
    refine x_callV (ci := 3) (C := RX2) (T := TX2) (N := 4) Z okX2_signsInAll q213 q215 q0 rfl dX2_house_37 (c_X2_signsInAll h0 htr hS) hS.1 ⟨Nat.le_of_ble_eq_true rfl, Nat.le_of_ble_eq_true rfl, Nat.le_of_ble_eq_true rfl, Nat.le_of_ble_eq_true rfl⟩ rfl rfl (Nat.le_of_ble_eq_true rfl) (fun v9 w9 hR => ?_)
    obtain ⟨rfl, e9⟩ := hR
    refine x_ew e9 ?_
    simp only [Option.toList_some, Option.toList_none, List.cons_append, List.nil_append]
    exact x_iret Z E (⟨⟨by rw [hs]; first | (rw [if_pos rfl]; done) | (rw [if_neg (by decide), if_pos rfl]; done) | (rw [if_neg (by decide), if_neg (by decide), if_pos rfl]; done) | (rw [if_neg (by decide), if_neg (by decide), if_neg (by decide), if_pos rfl]; done) | (rw [if_neg (by decide), if_neg (by decide), if_neg (by decide), if_neg (by decide)]; done), rfl⟩, by omega, by omega⟩) dX2_house_40 (Nat.le_of_ble_eq_true rfl) (Nat.le_of_ble_eq_true rfl)
  ·
    refine x_tabIn Z 41 dX2_house_1 ⟨by omega, by omega⟩ (by omega) (by omega) (by rw [hs]; rfl) (by decide) ?_
    refine x_aload_n Z dX2_house_41 rfl rfl ?_
    refine x_getf (ci := 3) (j := 1) (C := RX2) (T := TX2) (N := 4) Z inX2g rfl (by decide) q85 rfl dX2_house_42 (by assumption) rfl ?_
    exact x_iret Z E (⟨⟨by rw [hs]; first | (rw [if_pos rfl]; done) | (rw [if_neg (by decide), if_pos rfl]; done) | (rw [if_neg (by decide), if_neg (by decide), if_pos rfl]; done) | (rw [if_neg (by decide), if_neg (by decide), if_neg (by decide), if_pos rfl]; done) | (rw [if_neg (by decide), if_neg (by decide), if_neg (by decide), if_neg (by decide)]; done), rfl⟩, by omega, by omega⟩) dX2_house_45 (Nat.le_of_ble_eq_true rfl) (Nat.le_of_ble_eq_true rfl)
  ·
    refine x_tabIn Z 46 dX2_house_1 ⟨by omega, by omega⟩ (by omega) (by omega) (by rw [hs]; rfl) (by decide) ?_
    refine x_aload_n Z dX2_house_46 rfl rfl ?_
    refine x_getf (ci := 3) (j := 2) (C := RX2) (T := TX2) (N := 4) Z inX2g rfl (by decide) q86 rfl dX2_house_47 (by assumption) rfl ?_
    exact x_iret Z E (⟨⟨by rw [hs]; first | (rw [if_pos rfl]; done) | (rw [if_neg (by decide), if_pos rfl]; done) | (rw [if_neg (by decide), if_neg (by decide), if_pos rfl]; done) | (rw [if_neg (by decide), if_neg (by decide), if_neg (by decide), if_pos rfl]; done) | (rw [if_neg (by decide), if_neg (by decide), if_neg (by decide), if_neg (by decide)]; done), rfl⟩, by omega, by omega⟩) dX2_house_50 (Nat.le_of_ble_eq_true rfl) (Nat.le_of_ble_eq_true rfl)
  ·
    refine x_tabIn Z 51 dX2_house_1 ⟨by omega, by omega⟩ (by omega) (by omega) (by rw [hs]; rfl) (by decide) ?_
    refine x_aload_n Z dX2_house_51 rfl rfl ?_
    refine x_getf (ci := 3) (j := 3) (C := RX2) (T := TX2) (N := 4) Z inX2g rfl (by decide) q87 rfl dX2_house_52 (by assumption) rfl ?_
    exact x_iret Z E (⟨⟨by rw [hs]; first | (rw [if_pos rfl]; done) | (rw [if_neg (by decide), if_pos rfl]; done) | (rw [if_neg (by decide), if_neg (by decide), if_pos rfl]; done) | (rw [if_neg (by decide), if_neg (by decide), if_neg (by decide), if_pos rfl]; done) | (rw [if_neg (by decide), if_neg (by decide), if_neg (by decide), if_neg (by decide)]; done), rfl⟩, by omega, by omega⟩) dX2_house_55 (Nat.le_of_ble_eq_true rfl) (Nat.le_of_ble_eq_true rfl)
  ·
    refine x_tabIn Z 56 dX2_house_1 ⟨by omega, by omega⟩ (by omega) (by omega) (by rw [hs]; rfl) (by decide) ?_
    refine x_aload_n Z dX2_house_56 rfl rfl ?_
    refine x_callV (ci := 3) (C := RX2) (T := TX2) (N := 4) Z okX2_namesInAll q221 q223 q1 rfl dX2_house_57 (c_X2_namesInAll h0 htr hS) hS.1 ⟨Nat.le_of_ble_eq_true rfl, Nat.le_of_ble_eq_true rfl, Nat.le_of_ble_eq_true rfl, Nat.le_of_ble_eq_true rfl⟩ rfl rfl (Nat.le_of_ble_eq_true rfl) (fun v9 w9 hR => ?_)
    obtain ⟨rfl, e9⟩ := hR
    refine x_ew e9 ?_
    simp only [Option.toList_some, Option.toList_none, List.cons_append, List.nil_append]
    exact x_iret Z E (⟨⟨by rw [hs]; first | (rw [if_pos rfl]; done) | (rw [if_neg (by decide), if_pos rfl]; done) | (rw [if_neg (by decide), if_neg (by decide), if_pos rfl]; done) | (rw [if_neg (by decide), if_neg (by decide), if_neg (by decide), if_pos rfl]; done) | (rw [if_neg (by decide), if_neg (by decide), if_neg (by decide), if_neg (by decide)]; done), rfl⟩, by omega, by omega⟩) dX2_house_60 (Nat.le_of_ble_eq_true rfl) (Nat.le_of_ble_eq_true rfl)
abbrev rmc_X2_isSound : Room := { frames := 6, cells := 0, slots := 0, locals := 133 }
set_option maxRecDepth 100000 in
theorem c_X2_isSound {l : Launch} {s0 : State} {G : gK} {w : wd} (h0 : gS0 s0) (htr : l.stackTraces = false) {K : kA} {M : kM} (hS : kS G w K M) : gM l s0 G yX2_isSound [Cond.code yX2_isSound cX2_isSound 3 (some .boolean)] rmc_X2_isSound [rv K.1] w (fun v w' => ∃ q : Bool, v = some (iv (b2 q)) ∧ (q = true ↔ ∀ j, 0 ≤ j → j < 3 → SND (M.1 j) (M.2.1 j)) ∧ kS G w' K M ∧ fr (kP K) w w') (noX) := by
  refine g_of h0 htr (by decide +kernel) (Nat.le_of_ble_eq_true rfl) ?_
  intro b Z0 E
  have Z : gAm b l s0 G cX2_isSound RX2 3 rmc_X2_isSound := Z0
  refine x_el (L' := [(0, rv K.1)]) rfl ?_
  obtain ⟨hk1, ⟨f0, hk2, hk3⟩, hk4, hk5⟩ := id hS
  have hf0 : fr (kP K) w w := fr.rf
  refine x_callS Z okX2_areKindsSound q105 q106 dX2_isSound_0 (c_X2_areKindsSound h0 htr ) ⟨Nat.le_of_ble_eq_true rfl, Nat.le_of_ble_eq_true rfl, Nat.le_of_ble_eq_true rfl, Nat.le_of_ble_eq_true rfl⟩ rfl rfl (Nat.le_of_ble_eq_true rfl) (fun v9 w9 hR => ?_)
  obtain ⟨rfl, e9⟩ := hR
  refine x_ew e9 ?_
  simp only [Option.toList_some, Option.toList_none, List.cons_append, List.nil_append]
  refine x_istore_n (L' := [(1, _), (0, _)]) Z dX2_isSound_3 rfl (Nat.le_of_ble_eq_true rfl) rfl ?_
  refine x_iconst Z dX2_isSound_4 ?_
  refine x_istore_n (L' := [(2, _), (1, _), (0, _)]) Z dX2_isSound_5 rfl (Nat.le_of_ble_eq_true rfl) rfl ?_
  have loop6 : ∀ (fu : Nat) (i : Int) (o : Bool) (w1 : wd), 3 - i < (fu : Int) → (0 ≤ i ∧ i ≤ 3 ∧ (o = true ↔ ∀ j, 0 ≤ j → j < i → SND (M.1 j) (M.2.1 j)) ∧ kS G w1 K M ∧ fr (kP K) w w1) → gX b s0 G (0) (0) 6 [(2, iv i), (1, iv (b2 o)), (0, rv K.1)] [] (w1) := by
    intro fu; induction fu with
    | zero => intro i o w1 hm hv; exact absurd hm (by omega)
    | succ fu ih6 =>
      intro i o w1 hm hv
      obtain ⟨hi0, hin, ho, hS, hf0⟩ := hv
      obtain ⟨hk1, ⟨f0, hk2, hk3⟩, hk4, hk5⟩ := id hS
      refine x_iload_n Z dX2_isSound_6 rfl rfl ?_
      refine x_iconst Z dX2_isSound_7 ?_
      refine x_icmp_ge Z 39 dX2_isSound_8 (by decide) ⟨by omega, by omega⟩ ⟨by omega, by omega⟩ (fun c8 => ?_) (fun c8 => ?_)
      ·
        refine x_iload_n Z dX2_isSound_39 rfl rfl ?_
        have ho9 := ho
        rw [show i = 3 by omega] at ho9
        exact x_zret Z E (⟨_, rfl, ho9, hS, hf0⟩) dX2_isSound_40 (Nat.le_of_ble_eq_true rfl) (Nat.le_of_ble_eq_true rfl)
      ·
        refine x_iload_n Z dX2_isSound_11 rfl rfl ?_
        refine x_ifb_eq Z 31 dX2_isSound_12 (by decide) (fun c12 => ?_) (fun c12 => ?_)
        ·
          refine x_ib false Z dX2_isSound_31 (by decide) ?_
          refine x_istore_n (L' := [(1, _), (2, _), (0, _)]) Z dX2_isSound_32 rfl (Nat.le_of_ble_eq_true rfl) rfl ?_
          refine x_iinc (L' := [(2, _), (1, _), (0, _)]) Z dX2_isSound_33 rfl (Nat.le_of_ble_eq_true rfl) rfl ?_
          refine x_goto Z 6 dX2_isSound_36 (by decide) ?_
          first | exact ih6 (i + 1) true _ (by omega) ⟨by omega, by omega, ⟨fun _ j j0 j1 => (by (rcases (by omega : j < i ∨ j = i) with q | q; exact ho.mp c12 j j0 q; rw [q]; exact hq9.mp c24)), fun _ => rfl⟩, hS, hf0⟩ | exact ih6 (i + 1) false _ (by omega) ⟨by omega, by omega, ⟨fun h => absurd h (by decide), fun h => absurd (ho.mpr (fun j j0 j1 => h j j0 (by omega))) (by rw [c12]; decide)⟩, hS, hf0⟩ | exact ih6 (i + 1) false _ (by omega) ⟨by omega, by omega, ⟨fun h => absurd h (by decide), fun h => absurd (hq9.mpr (h i (by omega) (by omega))) (by rw [c24]; decide)⟩, hS, hf0⟩
        ·
          refine x_aload_n Z dX2_isSound_15 rfl rfl ?_
          refine x_getf (ci := 3) (j := 0) (C := RX2) (T := TX2) (N := 4) Z inX2g rfl (by decide) q84 rfl dX2_isSound_16 (by assumption) rfl ?_
          refine x_iload_n Z dX2_isSound_19 rfl rfl ?_
          refine x_aaldT Z dX2_isSound_20 hk2 (by decide) (by omega) (by omega) (hk3 i (by omega) (by omega)) ?_
          obtain ⟨B, ht⟩ := hS.2.2.1 i (by omega) (by omega)
          refine x_callV (ci := 2) (C := RX1) (T := TX1) (N := 3) Z okX1_isTextSound q113 q114 q115 rfl dX2_isSound_21 (c_X1_isTextSound h0 htr ht) ht.1 ⟨Nat.le_of_ble_eq_true rfl, Nat.le_of_ble_eq_true rfl, Nat.le_of_ble_eq_true rfl, Nat.le_of_ble_eq_true rfl⟩ rfl rfl (Nat.le_of_ble_eq_true rfl) (fun v9 w9 hR => ?_)
          obtain ⟨q9, rfl, hq9, B, ht, hf9⟩ := hR
          obtain ⟨ha, hr, hb, hn0, hn30, hC⟩ := id ht
          simp only [Option.toList_some, Option.toList_none, List.cons_append, List.nil_append]
          have hS := kS_putB hS (i := i) (by omega) (by omega) ht hf9
          have hf0 := hf0.tr (hf9.mono (kP_t (i := i) (by omega) (by omega)))
          refine x_ifb_eq Z 31 dX2_isSound_24 (by decide) (fun c24 => ?_) (fun c24 => ?_)
          ·
            refine x_ib false Z dX2_isSound_31 (by decide) ?_
            refine x_istore_n (L' := [(1, _), (2, _), (0, _)]) Z dX2_isSound_32 rfl (Nat.le_of_ble_eq_true rfl) rfl ?_
            refine x_iinc (L' := [(2, _), (1, _), (0, _)]) Z dX2_isSound_33 rfl (Nat.le_of_ble_eq_true rfl) rfl ?_
            refine x_goto Z 6 dX2_isSound_36 (by decide) ?_
            first | exact ih6 (i + 1) true _ (by omega) ⟨by omega, by omega, ⟨fun _ j j0 j1 => (by (rcases (by omega : j < i ∨ j = i) with q | q; exact ho.mp c12 j j0 q; rw [q]; exact hq9.mp c24)), fun _ => rfl⟩, hS, hf0⟩ | exact ih6 (i + 1) false _ (by omega) ⟨by omega, by omega, ⟨fun h => absurd h (by decide), fun h => absurd (ho.mpr (fun j j0 j1 => h j j0 (by omega))) (by rw [c12]; decide)⟩, hS, hf0⟩ | exact ih6 (i + 1) false _ (by omega) ⟨by omega, by omega, ⟨fun h => absurd h (by decide), fun h => absurd (hq9.mpr (h i (by omega) (by omega))) (by rw [c24]; decide)⟩, hS, hf0⟩
          ·
            refine x_ib true Z dX2_isSound_27 (by decide) ?_
            refine x_goto Z 32 dX2_isSound_28 (by decide) ?_
            refine x_istore_n (L' := [(1, _), (2, _), (0, _)]) Z dX2_isSound_32 rfl (Nat.le_of_ble_eq_true rfl) rfl ?_
            refine x_iinc (L' := [(2, _), (1, _), (0, _)]) Z dX2_isSound_33 rfl (Nat.le_of_ble_eq_true rfl) rfl ?_
            refine x_goto Z 6 dX2_isSound_36 (by decide) ?_
            first | exact ih6 (i + 1) true _ (by omega) ⟨by omega, by omega, ⟨fun _ j j0 j1 => (by (rcases (by omega : j < i ∨ j = i) with q | q; exact ho.mp c12 j j0 q; rw [q]; exact hq9.mp c24)), fun _ => rfl⟩, hS, hf0⟩ | exact ih6 (i + 1) false _ (by omega) ⟨by omega, by omega, ⟨fun h => absurd h (by decide), fun h => absurd (ho.mpr (fun j j0 j1 => h j j0 (by omega))) (by rw [c12]; decide)⟩, hS, hf0⟩ | exact ih6 (i + 1) false _ (by omega) ⟨by omega, by omega, ⟨fun h => absurd h (by decide), fun h => absurd (hq9.mpr (h i (by omega) (by omega))) (by rw [c24]; decide)⟩, hS, hf0⟩
  exact loop6 5 0 _ _ (by omega) ⟨by omega, by omega, ⟨fun _ j j0 j1 => absurd j1 (by omega), fun _ => rfl⟩, hS, hf0⟩
abbrev rmc_X2_digest : Room := { frames := 7, cells := 5, slots := 30, locals := 155 }
set_option maxRecDepth 100000 in
theorem c_X2_digest {l : Launch} {s0 : State} {G : gK} {w : wd} (h0 : gS0 s0) (htr : l.stackTraces = false) {K : kA} {M : kM} (hS : kS G w K M) : gM l s0 G yX2_digest [Cond.code yX2_digest cX2_digest 4 (some .long)] rmc_X2_digest [rv K.1] w (fun v w' => (∃ q : Bool, v = some (.long (dmx (forI (fun m d => dmx d ((fun m : Int => if m = 0 then 0 + M.1 0 + M.1 1 + M.1 2 else if m = 1 then M.2.2.1 else if m = 2 then M.2.2.2.1 else if m = 3 then M.2.2.2.2 else forI (cst (fun i => decide (0 < M.1 i ∧ sb (M.2.1 i 0) = 0 ∧ lon (M.1 i) (M.2.1 i) 0 = M.1 i))) 0 3 0) m)) 0 5 (forI (fun j d => dgT (M.1 j) (M.2.1 j) d) 0 3 8005)) (b2 q))) ∧ (q = true ↔ ∀ j, 0 ≤ j → j < 3 → SND (M.1 j) (M.2.1 j))) ∧ kS G w' K M ∧ fr (kP K) w w') (noX) := by
  refine g_of h0 htr (by decide +kernel) (Nat.le_of_ble_eq_true rfl) ?_
  intro b Z0 E
  have Z : gAm b l s0 G cX2_digest RX2 4 rmc_X2_digest := Z0
  refine x_el (L' := [(0, rv K.1)]) rfl ?_
  obtain ⟨hk1, ⟨f0, hk2, hk3⟩, hk4, hk5⟩ := id hS
  have hf0 : fr (kP K) w w := fr.rf
  refine x_ldc2 Z q191 dX2_digest_0 ?_
  refine x_lstore_n (L' := [(1, _), (0, _)]) Z dX2_digest_3 rfl (Nat.le_of_ble_eq_true rfl) rfl ?_
  refine x_iconst Z dX2_digest_4 ?_
  refine x_istore_n (L' := [(3, _), (1, _), (0, _)]) Z dX2_digest_5 rfl (Nat.le_of_ble_eq_true rfl) rfl ?_
  have loop6 : ∀ (fu : Nat) (i : Int) (x1 : Int64) (w1 : wd), 3 - i < (fu : Int) → (0 ≤ i ∧ i ≤ 3 ∧ forI (fun j d => dgT (M.1 j) (M.2.1 j) d) i 3 x1 = forI (fun j d => dgT (M.1 j) (M.2.1 j) d) 0 3 8005 ∧ kS G w1 K M ∧ fr (kP K) w w1) → gX b s0 G (0) (0) 6 [(3, iv i), (1, .long x1), (0, rv K.1)] [] (w1) := by
    intro fu; induction fu with
    | zero => intro i x1 w1 hm hv; exact absurd hm (by omega)
    | succ fu ih6 =>
      intro i x1 w1 hm hv
      obtain ⟨hi0, hin, hif, hS, hf0⟩ := hv
      obtain ⟨hk1, ⟨f0, hk2, hk3⟩, hk4, hk5⟩ := id hS
      refine x_iload_n Z dX2_digest_6 rfl rfl ?_
      refine x_iconst Z dX2_digest_7 ?_
      refine x_icmp_ge Z 28 dX2_digest_8 (by decide) ⟨by omega, by omega⟩ ⟨by omega, by omega⟩ (fun c8 => ?_) (fun c8 => ?_)
      ·
        refine x_iconst Z dX2_digest_28 ?_
        refine x_istore_n (L' := [(3, _), (1, _), (0, _)]) Z dX2_digest_29 rfl (Nat.le_of_ble_eq_true rfl) rfl ?_
        have loop30 : ∀ (fu : Nat) (i : Int) (x1 : Int64), 5 - i < (fu : Int) → (0 ≤ i ∧ i ≤ 5 ∧ forI (fun m d => dmx d ((fun m : Int => if m = 0 then 0 + M.1 0 + M.1 1 + M.1 2 else if m = 1 then M.2.2.1 else if m = 2 then M.2.2.2.1 else if m = 3 then M.2.2.2.2 else forI (cst (fun i => decide (0 < M.1 i ∧ sb (M.2.1 i 0) = 0 ∧ lon (M.1 i) (M.2.1 i) 0 = M.1 i))) 0 3 0) m)) i 5 x1 = forI (fun m d => dmx d ((fun m : Int => if m = 0 then 0 + M.1 0 + M.1 1 + M.1 2 else if m = 1 then M.2.2.1 else if m = 2 then M.2.2.2.1 else if m = 3 then M.2.2.2.2 else forI (cst (fun i => decide (0 < M.1 i ∧ sb (M.2.1 i 0) = 0 ∧ lon (M.1 i) (M.2.1 i) 0 = M.1 i))) 0 3 0) m)) 0 5 (forI (fun j d => dgT (M.1 j) (M.2.1 j) d) 0 3 8005)) → gX b s0 G (i.toNat) (6 * i.toNat) 30 [(3, iv i), (1, .long x1), (0, rv K.1)] [] (w1) := by
          intro fu; induction fu with
          | zero => intro i x1 hm hv; exact absurd hm (by omega)
          | succ fu ih30 =>
            intro i x1 hm hv
            obtain ⟨hi0, hin, hif⟩ := hv
            refine x_iload_n Z dX2_digest_30 rfl rfl ?_
            refine x_iconst Z dX2_digest_31 ?_
            refine x_icmp_gt Z 51 dX2_digest_32 (by decide) ⟨by omega, by omega⟩ ⟨by omega, by omega⟩ (fun c32 => ?_) (fun c32 => ?_)
            ·
              refine x_wd (k' := 5) (n' := 30) (by omega) (by omega) ?_
              refine x_lload_n Z dX2_digest_51 rfl rfl ?_
              refine x_aload_n Z dX2_digest_52 rfl rfl ?_
              refine x_callV (ci := 3) (C := RX2) (T := TX2) (N := 4) Z okX2_isSound q290 q102 q103 rfl dX2_digest_53 (c_X2_isSound h0 htr hS) hS.1 ⟨Nat.le_of_ble_eq_true rfl, Nat.le_of_ble_eq_true rfl, Nat.le_of_ble_eq_true rfl, Nat.le_of_ble_eq_true rfl⟩ rfl rfl (Nat.le_of_ble_eq_true rfl) (fun v9 w9 hR => ?_)
              obtain ⟨q, rfl, hq7, hS, hf9⟩ := hR
              have hf0 := hf0.tr hf9
              simp only [Option.toList_some, Option.toList_none, List.cons_append, List.nil_append]
              refine x_ifb_eq Z 63 dX2_digest_56 (by decide) (fun c56 => ?_) (fun c56 => ?_)
              ·
                refine x_ib false Z dX2_digest_63 (by decide) ?_
                refine x_callS Z okX2_mixed q289 q197 dX2_digest_64 (c_X2_mixed h0 htr ) ⟨Nat.le_of_ble_eq_true rfl, Nat.le_of_ble_eq_true rfl, Nat.le_of_ble_eq_true rfl, Nat.le_of_ble_eq_true rfl⟩ rfl rfl (Nat.le_of_ble_eq_true rfl) (fun v9 w9 hR => ?_)
                obtain ⟨rfl, e9⟩ := hR
                refine x_ew e9 ?_
                simp only [Option.toList_some, Option.toList_none, List.cons_append, List.nil_append]
                have hx2 : x1 = forI (fun m d => dmx d ((fun m : Int => if m = 0 then 0 + M.1 0 + M.1 1 + M.1 2 else if m = 1 then M.2.2.1 else if m = 2 then M.2.2.2.1 else if m = 3 then M.2.2.2.2 else forI (cst (fun i => decide (0 < M.1 i ∧ sb (M.2.1 i 0) = 0 ∧ lon (M.1 i) (M.2.1 i) 0 = M.1 i))) 0 3 0) m)) 0 5 (forI (fun j d => dgT (M.1 j) (M.2.1 j) d) 0 3 8005) := by { rw [← hif, forI_e (by omega)] }
                exact x_lret Z E (⟨⟨q, by rw [hx2, c56]; rfl, hq7⟩, hS, hf0⟩) dX2_digest_67 (Nat.le_of_ble_eq_true rfl) (Nat.le_of_ble_eq_true rfl)
              ·
                refine x_ib true Z dX2_digest_59 (by decide) ?_
                refine x_goto Z 64 dX2_digest_60 (by decide) ?_
                refine x_callS Z okX2_mixed q289 q197 dX2_digest_64 (c_X2_mixed h0 htr ) ⟨Nat.le_of_ble_eq_true rfl, Nat.le_of_ble_eq_true rfl, Nat.le_of_ble_eq_true rfl, Nat.le_of_ble_eq_true rfl⟩ rfl rfl (Nat.le_of_ble_eq_true rfl) (fun v9 w9 hR => ?_)
                obtain ⟨rfl, e9⟩ := hR
                refine x_ew e9 ?_
                simp only [Option.toList_some, Option.toList_none, List.cons_append, List.nil_append]
                have hx2 : x1 = forI (fun m d => dmx d ((fun m : Int => if m = 0 then 0 + M.1 0 + M.1 1 + M.1 2 else if m = 1 then M.2.2.1 else if m = 2 then M.2.2.2.1 else if m = 3 then M.2.2.2.2 else forI (cst (fun i => decide (0 < M.1 i ∧ sb (M.2.1 i 0) = 0 ∧ lon (M.1 i) (M.2.1 i) 0 = M.1 i))) 0 3 0) m)) 0 5 (forI (fun j d => dgT (M.1 j) (M.2.1 j) d) 0 3 8005) := by { rw [← hif, forI_e (by omega)] }
                exact x_lret Z E (⟨⟨q, by rw [hx2, c56]; rfl, hq7⟩, hS, hf0⟩) dX2_digest_67 (Nat.le_of_ble_eq_true rfl) (Nat.le_of_ble_eq_true rfl)
            ·
              refine x_lload_n Z dX2_digest_35 rfl rfl ?_
              refine x_aload_n Z dX2_digest_36 rfl rfl ?_
              refine x_iload_n Z dX2_digest_37 rfl rfl ?_
              refine x_callVx (ci := 3) (C := RX2) (T := TX2) (N := 4) Z okX2_house q209 q210 q211 rfl dX2_digest_38 (c_X2_house h0 htr hS ⟨by omega, by omega⟩) hS.1 ⟨Nat.le_of_ble_eq_true rfl, Nat.le_of_ble_eq_true rfl, (by show i.toNat + 1 ≤ 5; omega), (by show 6 * i.toNat + 6 ≤ 30; omega)⟩ rfl rfl (Nat.le_of_ble_eq_true rfl) (fun X w9 hX => (by exfalso; have h9 := hX.2.2; omega)) (fun v9 w9 hR => ?_)
              obtain ⟨⟨rfl, e9⟩, hm0, hm4⟩ := hR
              refine x_ew e9 ?_
              simp only [Option.toList_some, Option.toList_none, List.cons_append, List.nil_append]
              refine x_callS Z okX2_mixed q289 q197 dX2_digest_41 (c_X2_mixed h0 htr ) ⟨Nat.le_of_ble_eq_true rfl, Nat.le_of_ble_eq_true rfl, (by show i.toNat + 1 + 0 ≤ 5; omega), (by show 6 * i.toNat + 6 + 0 ≤ 30; omega)⟩ rfl rfl (Nat.le_of_ble_eq_true rfl) (fun v9 w9 hR => ?_)
              obtain ⟨rfl, e9⟩ := hR
              refine x_ew e9 ?_
              simp only [Option.toList_some, Option.toList_none, List.cons_append, List.nil_append]
              refine x_lstore_n (L' := [(1, _), (3, _), (0, _)]) Z dX2_digest_44 rfl (Nat.le_of_ble_eq_true rfl) rfl ?_
              refine x_iinc (L' := [(3, _), (1, _), (0, _)]) Z dX2_digest_45 rfl (Nat.le_of_ble_eq_true rfl) rfl ?_
              refine x_goto Z 30 dX2_digest_48 (by decide) ?_
              refine x_wd (k' := (i + 1).toNat) (n' := 6 * (i + 1).toNat) (by omega) (by omega) ?_
              exact ih30 (i + 1) _ (by omega) ⟨by omega, by omega, by rw [← hif, forI_s (f := fun m d => dmx d ((fun m : Int => if m = 0 then 0 + M.1 0 + M.1 1 + M.1 2 else if m = 1 then M.2.2.1 else if m = 2 then M.2.2.2.1 else if m = 3 then M.2.2.2.2 else forI (cst (fun i => decide (0 < M.1 i ∧ sb (M.2.1 i 0) = 0 ∧ lon (M.1 i) (M.2.1 i) 0 = M.1 i))) 0 3 0) m)) (i := i) (by omega)]; rfl⟩
        have hx1 : x1 = forI (fun j d => dgT (M.1 j) (M.2.1 j) d) 0 3 8005 := by { rw [← hif, forI_e (by omega)] }
        exact loop30 7 0 _ (by omega) ⟨by omega, by omega, by rw [hx1]⟩
      ·
        refine x_aload_n Z dX2_digest_11 rfl rfl ?_
        refine x_getf (ci := 3) (j := 0) (C := RX2) (T := TX2) (N := 4) Z inX2g rfl (by decide) q84 rfl dX2_digest_12 (by assumption) rfl ?_
        refine x_iload_n Z dX2_digest_15 rfl rfl ?_
        refine x_aaldT Z dX2_digest_16 hk2 (by decide) (by omega) (by omega) (hk3 i (by omega) (by omega)) ?_
        obtain ⟨B, ht⟩ := hS.2.2.1 i (by omega) (by omega)
        refine x_lload_n Z dX2_digest_17 rfl rfl ?_
        refine x_callV (ci := 2) (C := RX1) (T := TX1) (N := 3) Z okX1_digestFrom q192 q193 q194 rfl dX2_digest_18 (c_X1_digestFrom h0 htr ht) ht.1 ⟨Nat.le_of_ble_eq_true rfl, Nat.le_of_ble_eq_true rfl, Nat.le_of_ble_eq_true rfl, Nat.le_of_ble_eq_true rfl⟩ rfl rfl (Nat.le_of_ble_eq_true rfl) (fun v9 w9 hR => ?_)
        obtain ⟨rfl, B, ht, hf9⟩ := hR
        obtain ⟨ha, hr, hb, hn0, hn30, hC⟩ := id ht
        simp only [Option.toList_some, Option.toList_none, List.cons_append, List.nil_append]
        have hS := kS_putB hS (i := i) (by omega) (by omega) ht hf9
        have hf0 := hf0.tr (hf9.mono (kP_t (i := i) (by omega) (by omega)))
        refine x_lstore_n (L' := [(1, _), (3, _), (0, _)]) Z dX2_digest_21 rfl (Nat.le_of_ble_eq_true rfl) rfl ?_
        refine x_iinc (L' := [(3, _), (1, _), (0, _)]) Z dX2_digest_22 rfl (Nat.le_of_ble_eq_true rfl) rfl ?_
        refine x_goto Z 6 dX2_digest_25 (by decide) ?_
        exact ih6 (i + 1) _ _ (by omega) ⟨by omega, by omega, by rw [← hif, forI_s (f := fun j d => dgT (M.1 j) (M.2.1 j) d) (i := i) (by omega)], hS, hf0⟩
  exact loop6 5 0 _ _ (by omega) ⟨by omega, by omega, rfl, hS, hf0⟩
