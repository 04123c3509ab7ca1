/-! ref2: walks, by program -/
theorem q17 : Cond.selects RX4 yX4_isSo yX4_isSo ∈ gT := gt_s 17 rfl rfl
theorem q21 : Cond.selects RX4 yX4_sortOf yX4_sortOf ∈ gT := gt_s 21 rfl rfl
theorem q22 : Cond.selects RX4 yX4_areAll yX4_areAll ∈ gT := gt_s 22 rfl rfl
theorem q23 : Cond.selects RX4 yX4_areSum yX4_areSum ∈ gT := gt_s 23 rfl rfl
theorem q1071 : Cond.methodLink RX4 70 yX4_is ∈ gT := gt_5 76 rfl rfl
theorem q1072 : Cond.static yX4_is ∈ gT := gt_5 77 rfl rfl
theorem q1073 : Cond.code yX4_is cX4_is 1 (some .boolean) ∈ gT := gt_5 78 rfl rfl
theorem q1074 : Cond.methodLink RX4 83 yX4_isSign ∈ gT := gt_5 79 rfl rfl
theorem q1075 : Cond.static yX4_isSign ∈ gT := gt_5 80 rfl rfl
theorem q1076 : Cond.code yX4_isSign cX4_isSign 1 (some .boolean) ∈ gT := gt_5 81 rfl rfl
theorem q1145 : Cond.methodLink RX4 45 yX4_isSo ∈ gT := gt_5 150 rfl rfl
theorem q1147 : Cond.instanceMethod yX4_isSo ∈ gT := gt_5 152 rfl rfl
theorem q1148 : Cond.code yX4_isSo cX4_isSo 4 (some .boolean) ∈ gT := gt_5 153 rfl rfl
theorem q1149 : Cond.methodLink RX4 38 yX4_isLetter ∈ gT := gt_5 154 rfl rfl
theorem q1150 : Cond.static yX4_isLetter ∈ gT := gt_5 155 rfl rfl
theorem q1151 : Cond.code yX4_isLetter cX4_isLetter 1 (some .boolean) ∈ gT := gt_5 156 rfl rfl
theorem q1152 : Cond.methodLink RX4 42 yX4_isBlank ∈ gT := gt_5 157 rfl rfl
theorem q1153 : Cond.static yX4_isBlank ∈ gT := gt_5 158 rfl rfl
theorem q1154 : Cond.code yX4_isBlank cX4_isBlank 1 (some .boolean) ∈ gT := gt_5 159 rfl rfl
theorem q1179 : Cond.methodLink RX4 57 yX4_sortOf ∈ gT := gt_5 184 rfl rfl
theorem q1181 : Cond.instanceMethod yX4_sortOf ∈ gT := gt_5 186 rfl rfl
theorem q1182 : Cond.code yX4_sortOf cX4_sortOf 4 (some .int) ∈ gT := gt_5 187 rfl rfl
theorem q1183 : Cond.methodLink RX4 49 yX4_areAll ∈ gT := gt_5 188 rfl rfl
theorem q1185 : Cond.instanceMethod yX4_areAll ∈ gT := gt_5 190 rfl rfl
theorem q1186 : Cond.code yX4_areAll cX4_areAll 6 (some .boolean) ∈ gT := gt_5 191 rfl rfl
theorem q1187 : Cond.methodLink RX4 53 yX4_areSum ∈ gT := gt_5 192 rfl rfl
theorem q1189 : Cond.instanceMethod yX4_areSum ∈ gT := gt_5 194 rfl rfl
theorem q1190 : Cond.code yX4_areSum cX4_areSum 5 (some .boolean) ∈ gT := gt_5 195 rfl rfl
theorem okX4_isSign : gOk yX4_isSign cX4_isSign 1 (some .boolean) 1 := ⟨q1076, q38, ⟨by decide +kernel, by decide +kernel⟩, by decide +kernel⟩
theorem okX4_is : gOk yX4_is cX4_is 1 (some .boolean) 1 := ⟨q1073, q38, ⟨by decide +kernel, by decide +kernel⟩, by decide +kernel⟩
theorem okX4_isBlank : gOk yX4_isBlank cX4_isBlank 1 (some .boolean) 1 := ⟨q1154, q38, ⟨by decide +kernel, by decide +kernel⟩, by decide +kernel⟩
theorem okX4_isLetter : gOk yX4_isLetter cX4_isLetter 1 (some .boolean) 1 := ⟨q1151, q38, ⟨by decide +kernel, by decide +kernel⟩, by decide +kernel⟩
theorem okX4_isSo : gOk yX4_isSo cX4_isSo 4 (some .boolean) 2 := ⟨q1148, q38, ⟨by decide +kernel, by decide +kernel⟩, by decide +kernel⟩
theorem okX4_areAll : gOk yX4_areAll cX4_areAll 6 (some .boolean) 4 := ⟨q1186, q38, ⟨by decide +kernel, by decide +kernel⟩, by decide +kernel⟩
theorem okX4_areSum : gOk yX4_areSum cX4_areSum 5 (some .boolean) 3 := ⟨q1190, q38, ⟨by decide +kernel, by decide +kernel⟩, by decide +kernel⟩
theorem okX4_sortOf : gOk yX4_sortOf cX4_sortOf 4 (some .int) 3 := ⟨q1182, q38, ⟨by decide +kernel, by decide +kernel⟩, by decide +kernel⟩
abbrev rmc_X4_isLetter : Room := { frames := 0, cells := 0, slots := 0, locals := 0 }
set_option maxRecDepth 100000 in
theorem c_X4_isLetter {l : Launch} {s0 : State} {G : gK} {w : wd} (h0 : gS0 s0) (htr : l.stackTraces = false)  {x : Int} (hix : inr x) : gM l s0 G yX4_isLetter [Cond.code yX4_isLetter cX4_isLetter 1 (some .boolean)] rmc_X4_isLetter [iv x] w (fun v w' => ∃ q : Bool, v = some (iv (b2 q)) ∧ w' = w ∧ (q = true ↔ x = 1 ∨ x = 2 ∨ x = 5)) (noX) := by
  refine g_of h0 htr (by decide +kernel) (Nat.le_of_ble_eq_true rfl) ?_
  intro b Z0 E
  have Z : gAm b l s0 G cX4_isLetter RX4 1 rmc_X4_isLetter := Z0
  refine x_el (L' := [(0, iv x)]) rfl ?_
  refine x_iload_n Z dX4_isLetter_0 rfl rfl ?_
  refine x_iconst Z dX4_isLetter_1 ?_
  refine x_icmp_eq Z 15 dX4_isLetter_2 (by decide) ⟨by omega, by omega⟩ ⟨by omega, by omega⟩ (fun c2 => ?_) (fun c2 => ?_)
  ·
    refine x_ib true Z dX4_isLetter_15 (by decide) ?_
    refine x_goto Z 20 dX4_isLetter_16 (by decide) ?_
    exact x_zret Z E (⟨_, rfl, rfl, by first | exact ⟨fun _ => by omega, fun _ => rfl⟩ | exact ⟨fun h => absurd h (by decide), fun h => by omega⟩⟩) dX4_isLetter_20 (Nat.le_of_ble_eq_true rfl) (Nat.le_of_ble_eq_true rfl)
  ·
    refine x_iload_n Z dX4_isLetter_5 rfl rfl ?_
    refine x_iconst Z dX4_isLetter_6 ?_
    refine x_icmp_eq Z 15 dX4_isLetter_7 (by decide) ⟨by omega, by omega⟩ ⟨by omega, by omega⟩ (fun c7 => ?_) (fun c7 => ?_)
    ·
      refine x_ib true Z dX4_isLetter_15 (by decide) ?_
      refine x_goto Z 20 dX4_isLetter_16 (by decide) ?_
      exact x_zret Z E (⟨_, rfl, rfl, by first | exact ⟨fun _ => by omega, fun _ => rfl⟩ | exact ⟨fun h => absurd h (by decide), fun h => by omega⟩⟩) dX4_isLetter_20 (Nat.le_of_ble_eq_true rfl) (Nat.le_of_ble_eq_true rfl)
    ·
      refine x_iload_n Z dX4_isLetter_10 rfl rfl ?_
      refine x_iconst Z dX4_isLetter_11 ?_
      refine x_icmp_ne Z 19 dX4_isLetter_12 (by decide) ⟨by omega, by omega⟩ ⟨by omega, by omega⟩ (fun c12 => ?_) (fun c12 => ?_)
      ·
        refine x_ib false Z dX4_isLetter_19 (by decide) ?_
        exact x_zret Z E (⟨_, rfl, rfl, by first | exact ⟨fun _ => by omega, fun _ => rfl⟩ | exact ⟨fun h => absurd h (by decide), fun h => by omega⟩⟩) dX4_isLetter_20 (Nat.le_of_ble_eq_true rfl) (Nat.le_of_ble_eq_true rfl)
      ·
        refine x_ib true Z dX4_isLetter_15 (by decide) ?_
        refine x_goto Z 20 dX4_isLetter_16 (by decide) ?_
        exact x_zret Z E (⟨_, rfl, rfl, by first | exact ⟨fun _ => by omega, fun _ => rfl⟩ | exact ⟨fun h => absurd h (by decide), fun h => by omega⟩⟩) dX4_isLetter_20 (Nat.le_of_ble_eq_true rfl) (Nat.le_of_ble_eq_true rfl)
abbrev rmc_X4_isBlank : Room := { frames := 0, cells := 0, slots := 0, locals := 0 }
set_option maxRecDepth 100000 in
theorem c_X4_isBlank {l : Launch} {s0 : State} {G : gK} {w : wd} (h0 : gS0 s0) (htr : l.stackTraces = false)  {c : Int} (hic : inr c) : gM l s0 G yX4_isBlank [Cond.code yX4_isBlank cX4_isBlank 1 (some .boolean)] rmc_X4_isBlank [iv c] w (fun v w' => ∃ q : Bool, v = some (iv (b2 q)) ∧ w' = w ∧ (q = true ↔ (8 < c ∧ c < 14) ∨ (27 < c ∧ c < 33))) (noX) := by
  refine g_of h0 htr (by decide +kernel) (Nat.le_of_ble_eq_true rfl) ?_
  intro b Z0 E
  have Z : gAm b l s0 G cX4_isBlank RX4 1 rmc_X4_isBlank := Z0
  refine x_el (L' := [(0, iv c)]) rfl ?_
  refine x_iload_n Z dX4_isBlank_0 rfl rfl ?_
  refine x_bipush Z dX4_isBlank_1 (by decide +kernel) ?_
  refine x_icmp_le Z 12 dX4_isBlank_3 (by decide) ⟨by omega, by omega⟩ ⟨by omega, by omega⟩ (fun c3 => ?_) (fun c3 => ?_)
  ·
    refine x_iload_n Z dX4_isBlank_12 rfl rfl ?_
    refine x_bipush Z dX4_isBlank_13 (by decide +kernel) ?_
    refine x_icmp_le Z 28 dX4_isBlank_15 (by decide) ⟨by omega, by omega⟩ ⟨by omega, by omega⟩ (fun c15 => ?_) (fun c15 => ?_)
    ·
      refine x_ib false Z dX4_isBlank_28 (by decide) ?_
      exact x_zret Z E (⟨_, rfl, rfl, by first | exact ⟨fun _ => by omega, fun _ => rfl⟩ | exact ⟨fun h => absurd h (by decide), fun h => by omega⟩⟩) dX4_isBlank_29 (Nat.le_of_ble_eq_true rfl) (Nat.le_of_ble_eq_true rfl)
    ·
      refine x_iload_n Z dX4_isBlank_18 rfl rfl ?_
      refine x_bipush Z dX4_isBlank_19 (by decide +kernel) ?_
      refine x_icmp_ge Z 28 dX4_isBlank_21 (by decide) ⟨by omega, by omega⟩ ⟨by omega, by omega⟩ (fun c21 => ?_) (fun c21 => ?_)
      ·
        refine x_ib false Z dX4_isBlank_28 (by decide) ?_
        exact x_zret Z E (⟨_, rfl, rfl, by first | exact ⟨fun _ => by omega, fun _ => rfl⟩ | exact ⟨fun h => absurd h (by decide), fun h => by omega⟩⟩) dX4_isBlank_29 (Nat.le_of_ble_eq_true rfl) (Nat.le_of_ble_eq_true rfl)
      ·
        refine x_ib true Z dX4_isBlank_24 (by decide) ?_
        refine x_goto Z 29 dX4_isBlank_25 (by decide) ?_
        exact x_zret Z E (⟨_, rfl, rfl, by first | exact ⟨fun _ => by omega, fun _ => rfl⟩ | exact ⟨fun h => absurd h (by decide), fun h => by omega⟩⟩) dX4_isBlank_29 (Nat.le_of_ble_eq_true rfl) (Nat.le_of_ble_eq_true rfl)
  ·
    refine x_iload_n Z dX4_isBlank_6 rfl rfl ?_
    refine x_bipush Z dX4_isBlank_7 (by decide +kernel) ?_
    refine x_icmp_lt Z 24 dX4_isBlank_9 (by decide) ⟨by omega, by omega⟩ ⟨by omega, by omega⟩ (fun c9 => ?_) (fun c9 => ?_)
    ·
      refine x_ib true Z dX4_isBlank_24 (by decide) ?_
      refine x_goto Z 29 dX4_isBlank_25 (by decide) ?_
      exact x_zret Z E (⟨_, rfl, rfl, by first | exact ⟨fun _ => by omega, fun _ => rfl⟩ | exact ⟨fun h => absurd h (by decide), fun h => by omega⟩⟩) dX4_isBlank_29 (Nat.le_of_ble_eq_true rfl) (Nat.le_of_ble_eq_true rfl)
    ·
      refine x_iload_n Z dX4_isBlank_12 rfl rfl ?_
      refine x_bipush Z dX4_isBlank_13 (by decide +kernel) ?_
      refine x_icmp_le Z 28 dX4_isBlank_15 (by decide) ⟨by omega, by omega⟩ ⟨by omega, by omega⟩ (fun c15 => ?_) (fun c15 => ?_)
      ·
        refine x_ib false Z dX4_isBlank_28 (by decide) ?_
        exact x_zret Z E (⟨_, rfl, rfl, by first | exact ⟨fun _ => by omega, fun _ => rfl⟩ | exact ⟨fun h => absurd h (by decide), fun h => by omega⟩⟩) dX4_isBlank_29 (Nat.le_of_ble_eq_true rfl) (Nat.le_of_ble_eq_true rfl)
      ·
        refine x_iload_n Z dX4_isBlank_18 rfl rfl ?_
        refine x_bipush Z dX4_isBlank_19 (by decide +kernel) ?_
        refine x_icmp_ge Z 28 dX4_isBlank_21 (by decide) ⟨by omega, by omega⟩ ⟨by omega, by omega⟩ (fun c21 => ?_) (fun c21 => ?_)
        ·
          refine x_ib false Z dX4_isBlank_28 (by decide) ?_
          exact x_zret Z E (⟨_, rfl, rfl, by first | exact ⟨fun _ => by omega, fun _ => rfl⟩ | exact ⟨fun h => absurd h (by decide), fun h => by omega⟩⟩) dX4_isBlank_29 (Nat.le_of_ble_eq_true rfl) (Nat.le_of_ble_eq_true rfl)
        ·
          refine x_ib true Z dX4_isBlank_24 (by decide) ?_
          refine x_goto Z 29 dX4_isBlank_25 (by decide) ?_
          exact x_zret Z E (⟨_, rfl, rfl, by first | exact ⟨fun _ => by omega, fun _ => rfl⟩ | exact ⟨fun h => absurd h (by decide), fun h => by omega⟩⟩) dX4_isBlank_29 (Nat.le_of_ble_eq_true rfl) (Nat.le_of_ble_eq_true rfl)
abbrev rmc_X4_is : Room := { frames := 0, cells := 0, slots := 0, locals := 0 }
set_option maxRecDepth 100000 in
theorem c_X4_is {l : Launch} {s0 : State} {G : gK} {w : wd} (h0 : gS0 s0) (htr : l.stackTraces = false)  {t : Int} (hit : inr t) : gM l s0 G yX4_is [Cond.code yX4_is cX4_is 1 (some .boolean)] rmc_X4_is [iv t] w (fun v w' => ∃ q : Bool, v = some (iv (b2 q)) ∧ w' = w ∧ (q = true ↔ 0 ≤ t ∧ t < 3)) (noX) := by
  refine g_of h0 htr (by decide +kernel) (Nat.le_of_ble_eq_true rfl) ?_
  intro b Z0 E
  have Z : gAm b l s0 G cX4_is RX4 1 rmc_X4_is := Z0
  refine x_el (L' := [(0, iv t)]) rfl ?_
  refine x_iload_n Z dX4_is_0 rfl rfl ?_
  refine x_if_lt Z 13 dX4_is_1 (by decide) ⟨by omega, by omega⟩ (fun c1 => ?_) (fun c1 => ?_)
  ·
    refine x_ib false Z dX4_is_13 (by decide) ?_
    exact x_zret Z E (⟨_, rfl, rfl, by first | exact ⟨fun _ => by omega, fun _ => rfl⟩ | exact ⟨fun h => absurd h (by decide), fun h => by omega⟩⟩) dX4_is_14 (Nat.le_of_ble_eq_true rfl) (Nat.le_of_ble_eq_true rfl)
  ·
    refine x_iload_n Z dX4_is_4 rfl rfl ?_
    refine x_iconst Z dX4_is_5 ?_
    refine x_icmp_ge Z 13 dX4_is_6 (by decide) ⟨by omega, by omega⟩ ⟨by omega, by omega⟩ (fun c6 => ?_) (fun c6 => ?_)
    ·
      refine x_ib false Z dX4_is_13 (by decide) ?_
      exact x_zret Z E (⟨_, rfl, rfl, by first | exact ⟨fun _ => by omega, fun _ => rfl⟩ | exact ⟨fun h => absurd h (by decide), fun h => by omega⟩⟩) dX4_is_14 (Nat.le_of_ble_eq_true rfl) (Nat.le_of_ble_eq_true rfl)
    ·
      refine x_ib true Z dX4_is_9 (by decide) ?_
      refine x_goto Z 14 dX4_is_10 (by decide) ?_
      exact x_zret Z E (⟨_, rfl, rfl, by first | exact ⟨fun _ => by omega, fun _ => rfl⟩ | exact ⟨fun h => absurd h (by decide), fun h => by omega⟩⟩) dX4_is_14 (Nat.le_of_ble_eq_true rfl) (Nat.le_of_ble_eq_true rfl)
abbrev rmc_X4_isSign : Room := { frames := 0, cells := 0, slots := 0, locals := 0 }
set_option maxRecDepth 100000 in
theorem c_X4_isSign {l : Launch} {s0 : State} {G : gK} {w : wd} (h0 : gS0 s0) (htr : l.stackTraces = false)  {s : Int} (his : inr s) : gM l s0 G yX4_isSign [Cond.code yX4_isSign cX4_isSign 1 (some .boolean)] rmc_X4_isSign [iv s] w (fun v w' => ∃ q : Bool, v = some (iv (b2 q)) ∧ w' = w ∧ (q = true ↔ 0 ≤ s ∧ s < 256)) (noX) := by
  refine g_of h0 htr (by decide +kernel) (Nat.le_of_ble_eq_true rfl) ?_
  intro b Z0 E
  have Z : gAm b l s0 G cX4_isSign RX4 1 rmc_X4_isSign := Z0
  refine x_el (L' := [(0, iv s)]) rfl ?_
  refine x_iload_n Z dX4_isSign_0 rfl rfl ?_
  refine x_if_lt Z 15 dX4_isSign_1 (by decide) ⟨by omega, by omega⟩ (fun c1 => ?_) (fun c1 => ?_)
  ·
    refine x_ib false Z dX4_isSign_15 (by decide) ?_
    exact x_zret Z E (⟨_, rfl, rfl, by first | exact ⟨fun _ => by omega, fun _ => rfl⟩ | exact ⟨fun h => absurd h (by decide), fun h => by omega⟩⟩) dX4_isSign_16 (Nat.le_of_ble_eq_true rfl) (Nat.le_of_ble_eq_true rfl)
  ·
    refine x_iload_n Z dX4_isSign_4 rfl rfl ?_
    refine x_sipush Z dX4_isSign_5 (by decide +kernel) ?_
    refine x_icmp_ge Z 15 dX4_isSign_8 (by decide) ⟨by omega, by omega⟩ ⟨by omega, by omega⟩ (fun c8 => ?_) (fun c8 => ?_)
    ·
      refine x_ib false Z dX4_isSign_15 (by decide) ?_
      exact x_zret Z E (⟨_, rfl, rfl, by first | exact ⟨fun _ => by omega, fun _ => rfl⟩ | exact ⟨fun h => absurd h (by decide), fun h => by omega⟩⟩) dX4_isSign_16 (Nat.le_of_ble_eq_true rfl) (Nat.le_of_ble_eq_true rfl)
    ·
      refine x_ib true Z dX4_isSign_11 (by decide) ?_
      refine x_goto Z 16 dX4_isSign_12 (by decide) ?_
      exact x_zret Z E (⟨_, rfl, rfl, by first | exact ⟨fun _ => by omega, fun _ => rfl⟩ | exact ⟨fun h => absurd h (by decide), fun h => by omega⟩⟩) dX4_isSign_16 (Nat.le_of_ble_eq_true rfl) (Nat.le_of_ble_eq_true rfl)
abbrev rmc_X4_isQuestion : Room := { frames := 0, cells := 0, slots := 0, locals := 0 }
set_option maxRecDepth 100000 in
theorem c_X4_isQuestion {l : Launch} {s0 : State} {G : gK} {w : wd} (h0 : gS0 s0) (htr : l.stackTraces = false)  {q1 : Int} (hiq1 : inr q1) : gM l s0 G yX4_isQuestion [Cond.code yX4_isQuestion cX4_isQuestion 1 (some .boolean)] rmc_X4_isQuestion [iv q1] w (fun v w' => ∃ q : Bool, v = some (iv (b2 q)) ∧ w' = w ∧ (q = true ↔ 0 ≤ q1 ∧ q1 < 14)) (noX) := by
  refine g_of h0 htr (by decide +kernel) (Nat.le_of_ble_eq_true rfl) ?_
  intro b Z0 E
  have Z : gAm b l s0 G cX4_isQuestion RX4 1 rmc_X4_isQuestion := Z0
  refine x_el (L' := [(0, iv q1)]) rfl ?_
  refine x_iload_n Z dX4_isQuestion_0 rfl rfl ?_
  refine x_if_lt Z 14 dX4_isQuestion_1 (by decide) ⟨by omega, by omega⟩ (fun c1 => ?_) (fun c1 => ?_)
  ·
    refine x_ib false Z dX4_isQuestion_14 (by decide) ?_
    exact x_zret Z E (⟨_, rfl, rfl, by first | exact ⟨fun _ => by omega, fun _ => rfl⟩ | exact ⟨fun h => absurd h (by decide), fun h => by omega⟩⟩) dX4_isQuestion_15 (Nat.le_of_ble_eq_true rfl) (Nat.le_of_ble_eq_true rfl)
  ·
    refine x_iload_n Z dX4_isQuestion_4 rfl rfl ?_
    refine x_bipush Z dX4_isQuestion_5 (by decide +kernel) ?_
    refine x_icmp_ge Z 14 dX4_isQuestion_7 (by decide) ⟨by omega, by omega⟩ ⟨by omega, by omega⟩ (fun c7 => ?_) (fun c7 => ?_)
    ·
      refine x_ib false Z dX4_isQuestion_14 (by decide) ?_
      exact x_zret Z E (⟨_, rfl, rfl, by first | exact ⟨fun _ => by omega, fun _ => rfl⟩ | exact ⟨fun h => absurd h (by decide), fun h => by omega⟩⟩) dX4_isQuestion_15 (Nat.le_of_ble_eq_true rfl) (Nat.le_of_ble_eq_true rfl)
    ·
      refine x_ib true Z dX4_isQuestion_10 (by decide) ?_
      refine x_goto Z 15 dX4_isQuestion_11 (by decide) ?_
      exact x_zret Z E (⟨_, rfl, rfl, by first | exact ⟨fun _ => by omega, fun _ => rfl⟩ | exact ⟨fun h => absurd h (by decide), fun h => by omega⟩⟩) dX4_isQuestion_15 (Nat.le_of_ble_eq_true rfl) (Nat.le_of_ble_eq_true rfl)
abbrev rmc_X4_isKind : Room := { frames := 0, cells := 0, slots := 0, locals := 0 }
set_option maxRecDepth 100000 in
theorem c_X4_isKind {l : Launch} {s0 : State} {G : gK} {w : wd} (h0 : gS0 s0) (htr : l.stackTraces = false)  {k1 : Int} (hik1 : inr k1) : gM l s0 G yX4_isKind [Cond.code yX4_isKind cX4_isKind 1 (some .boolean)] rmc_X4_isKind [iv k1] w (fun v w' => ∃ q : Bool, v = some (iv (b2 q)) ∧ w' = w ∧ (q = true ↔ 0 ≤ k1 ∧ k1 < 31)) (noX) := by
  refine g_of h0 htr (by decide +kernel) (Nat.le_of_ble_eq_true rfl) ?_
  intro b Z0 E
  have Z : gAm b l s0 G cX4_isKind RX4 1 rmc_X4_isKind := Z0
  refine x_el (L' := [(0, iv k1)]) rfl ?_
  refine x_iload_n Z dX4_isKind_0 rfl rfl ?_
  refine x_if_lt Z 14 dX4_isKind_1 (by decide) ⟨by omega, by omega⟩ (fun c1 => ?_) (fun c1 => ?_)
  ·
    refine x_ib false Z dX4_isKind_14 (by decide) ?_
    exact x_zret Z E (⟨_, rfl, rfl, by first | exact ⟨fun _ => by omega, fun _ => rfl⟩ | exact ⟨fun h => absurd h (by decide), fun h => by omega⟩⟩) dX4_isKind_15 (Nat.le_of_ble_eq_true rfl) (Nat.le_of_ble_eq_true rfl)
  ·
    refine x_iload_n Z dX4_isKind_4 rfl rfl ?_
    refine x_bipush Z dX4_isKind_5 (by decide +kernel) ?_
    refine x_icmp_ge Z 14 dX4_isKind_7 (by decide) ⟨by omega, by omega⟩ ⟨by omega, by omega⟩ (fun c7 => ?_) (fun c7 => ?_)
    ·
      refine x_ib false Z dX4_isKind_14 (by decide) ?_
      exact x_zret Z E (⟨_, rfl, rfl, by first | exact ⟨fun _ => by omega, fun _ => rfl⟩ | exact ⟨fun h => absurd h (by decide), fun h => by omega⟩⟩) dX4_isKind_15 (Nat.le_of_ble_eq_true rfl) (Nat.le_of_ble_eq_true rfl)
    ·
      refine x_ib true Z dX4_isKind_10 (by decide) ?_
      refine x_goto Z 15 dX4_isKind_11 (by decide) ?_
      exact x_zret Z E (⟨_, rfl, rfl, by first | exact ⟨fun _ => by omega, fun _ => rfl⟩ | exact ⟨fun h => absurd h (by decide), fun h => by omega⟩⟩) dX4_isKind_15 (Nat.le_of_ble_eq_true rfl) (Nat.le_of_ble_eq_true rfl)
abbrev rmc_X4_isSpan : Room := { frames := 1, cells := 0, slots := 0, locals := 20 }
set_option maxRecDepth 100000 in
theorem c_X4_isSpan {l : Launch} {s0 : State} {G : gK} {w : wd} (h0 : gS0 s0) (htr : l.stackTraces = false)  {f : Int} {t : Int} (hif : inr f) (hit : inr t) : gM l s0 G yX4_isSpan [Cond.code yX4_isSpan cX4_isSpan 2 (some .boolean)] rmc_X4_isSpan [iv f, iv t] w (fun v w' => ∃ q : Bool, v = some (iv (b2 q)) ∧ w' = w ∧ (q = true ↔ 0 ≤ f ∧ f < 256 ∧ 0 ≤ t ∧ t < 256 ∧ f ≤ t)) (noX) := by
  refine g_of h0 htr (by decide +kernel) (Nat.le_of_ble_eq_true rfl) ?_
  intro b Z0 E
  have Z : gAm b l s0 G cX4_isSpan RX4 2 rmc_X4_isSpan := Z0
  refine x_el (L' := [(0, iv f), (1, iv t)]) rfl ?_
  refine x_iload_n Z dX4_isSpan_0 rfl rfl ?_
  refine x_callS Z okX4_isSign q1074 q1075 dX4_isSpan_1 (c_X4_isSign h0 htr (by assumption)) ⟨Nat.le_of_ble_eq_true rfl, Nat.le_of_ble_eq_true rfl, Nat.le_of_ble_eq_true rfl, Nat.le_of_ble_eq_true rfl⟩ rfl rfl (Nat.le_of_ble_eq_true rfl) (fun v9 w9 hR => ?_)
  obtain ⟨o9, rfl, e9, hq⟩ := hR
  refine x_ew e9 ?_
  simp only [Option.toList_some, Option.toList_none, List.cons_append, List.nil_append]
  refine x_ifb_eq Z 23 dX4_isSpan_4 (by decide) (fun c4 => ?_) (fun c4 => ?_)
  ·
    have f4 := bq_f hq c4
    refine x_ib false Z dX4_isSpan_23 (by decide) ?_
    exact x_zret Z E (⟨_, rfl, rfl, by first | exact ⟨fun _ => by omega, fun _ => rfl⟩ | exact ⟨fun h => absurd h (by decide), fun h => by omega⟩⟩) dX4_isSpan_24 (Nat.le_of_ble_eq_true rfl) (Nat.le_of_ble_eq_true rfl)
  ·
    have f4 := bq_t hq c4
    refine x_iload_n Z dX4_isSpan_7 rfl rfl ?_
    refine x_callS Z okX4_isSign q1074 q1075 dX4_isSpan_8 (c_X4_isSign h0 htr (by assumption)) ⟨Nat.le_of_ble_eq_true rfl, Nat.le_of_ble_eq_true rfl, Nat.le_of_ble_eq_true rfl, Nat.le_of_ble_eq_true rfl⟩ rfl rfl (Nat.le_of_ble_eq_true rfl) (fun v9 w9 hR => ?_)
    obtain ⟨o9, rfl, e9, hq⟩ := hR
    refine x_ew e9 ?_
    simp only [Option.toList_some, Option.toList_none, List.cons_append, List.nil_append]
    refine x_ifb_eq Z 23 dX4_isSpan_11 (by decide) (fun c11 => ?_) (fun c11 => ?_)
    ·
      have f11 := bq_f hq c11
      refine x_ib false Z dX4_isSpan_23 (by decide) ?_
      exact x_zret Z E (⟨_, rfl, rfl, by first | exact ⟨fun _ => by omega, fun _ => rfl⟩ | exact ⟨fun h => absurd h (by decide), fun h => by omega⟩⟩) dX4_isSpan_24 (Nat.le_of_ble_eq_true rfl) (Nat.le_of_ble_eq_true rfl)
    ·
      have f11 := bq_t hq c11
      refine x_iload_n Z dX4_isSpan_14 rfl rfl ?_
      refine x_iload_n Z dX4_isSpan_15 rfl rfl ?_
      refine x_icmp_gt Z 23 dX4_isSpan_16 (by decide) ⟨by omega, by omega⟩ ⟨by omega, by omega⟩ (fun c16 => ?_) (fun c16 => ?_)
      ·
        refine x_ib false Z dX4_isSpan_23 (by decide) ?_
        exact x_zret Z E (⟨_, rfl, rfl, by first | exact ⟨fun _ => by omega, fun _ => rfl⟩ | exact ⟨fun h => absurd h (by decide), fun h => by omega⟩⟩) dX4_isSpan_24 (Nat.le_of_ble_eq_true rfl) (Nat.le_of_ble_eq_true rfl)
      ·
        refine x_ib true Z dX4_isSpan_19 (by decide) ?_
        refine x_goto Z 24 dX4_isSpan_20 (by decide) ?_
        exact x_zret Z E (⟨_, rfl, rfl, by first | exact ⟨fun _ => by omega, fun _ => rfl⟩ | exact ⟨fun h => absurd h (by decide), fun h => by omega⟩⟩) dX4_isSpan_24 (Nat.le_of_ble_eq_true rfl) (Nat.le_of_ble_eq_true rfl)
abbrev rmc_X4_isPlace : Room := { frames := 1, cells := 0, slots := 0, locals := 20 }
set_option maxRecDepth 100000 in
theorem c_X4_isPlace {l : Launch} {s0 : State} {G : gK} {w : wd} (h0 : gS0 s0) (htr : l.stackTraces = false) {R : rA} {S : rM} {t : Int} {p : Int} (hS : rS G w R S) (hit : inr t) (hip : inr p) : gM l s0 G yX4_isPlace [Cond.code yX4_isPlace cX4_isPlace 3 (some .boolean)] rmc_X4_isPlace [rv R.1, iv t, iv p] w (fun v w' => ∃ q : Bool, v = some (iv (b2 q)) ∧ w' = w ∧ (q = true ↔ (0 ≤ t ∧ t < 3) ∧ 0 ≤ p ∧ p < S.2.1 t)) (noX) := by
  refine g_of h0 htr (by decide +kernel) (Nat.le_of_ble_eq_true rfl) ?_
  intro b Z0 E
  have Z : gAm b l s0 G cX4_isPlace RX4 3 rmc_X4_isPlace := Z0
  refine x_el (L' := [(0, rv R.1), (1, iv t), (2, iv p)]) rfl ?_
  obtain ⟨hr1, hr2, ⟨f3, hr3, hf3⟩, hr4, hr5, hr6⟩ := id hS
  refine x_iload_n Z dX4_isPlace_0 rfl rfl ?_
  refine x_callS Z okX4_is q1071 q1072 dX4_isPlace_1 (c_X4_is h0 htr (by assumption)) ⟨Nat.le_of_ble_eq_true rfl, Nat.le_of_ble_eq_true rfl, Nat.le_of_ble_eq_true rfl, Nat.le_of_ble_eq_true rfl⟩ rfl rfl (Nat.le_of_ble_eq_true rfl) (fun v9 w9 hR => ?_)
  obtain ⟨o9, rfl, e9, hq⟩ := hR
  refine x_ew e9 ?_
  simp only [Option.toList_some, Option.toList_none, List.cons_append, List.nil_append]
  refine x_ifb_eq Z 25 dX4_isPlace_4 (by decide) (fun c4 => ?_) (fun c4 => ?_)
  ·
    have f4 := bq_f hq c4
    refine x_ib false Z dX4_isPlace_25 (by decide) ?_
    exact x_zret Z E (⟨_, rfl, rfl, by first | exact ⟨fun _ => by omega, fun _ => rfl⟩ | exact ⟨fun h => absurd h (by decide), fun h => by omega⟩⟩) dX4_isPlace_26 (Nat.le_of_ble_eq_true rfl) (Nat.le_of_ble_eq_true rfl)
  ·
    have f4 := bq_t hq c4
    obtain ⟨hrt, hn0, hn30, hC⟩ := hr5 t (by omega) (by omega)
    refine x_iload_n Z dX4_isPlace_7 rfl rfl ?_
    refine x_if_lt Z 25 dX4_isPlace_8 (by decide) ⟨by omega, by omega⟩ (fun c8 => ?_) (fun c8 => ?_)
    ·
      refine x_ib false Z dX4_isPlace_25 (by decide) ?_
      exact x_zret Z E (⟨_, rfl, rfl, by first | exact ⟨fun _ => by omega, fun _ => rfl⟩ | exact ⟨fun h => absurd h (by decide), fun h => by omega⟩⟩) dX4_isPlace_26 (Nat.le_of_ble_eq_true rfl) (Nat.le_of_ble_eq_true rfl)
    ·
      refine x_iload_n Z dX4_isPlace_11 rfl rfl ?_
      refine x_aload_n Z dX4_isPlace_12 rfl rfl ?_
      refine x_getf (ci := 5) (j := 2) (C := RX4) (T := TX4) (N := 7) Z inX4g rfl (by decide) q1043 rfl dX4_isPlace_13 (by assumption) rfl ?_
      refine x_iload_n Z dX4_isPlace_16 rfl rfl ?_
      refine x_iald Z dX4_isPlace_17 (by assumption) (by omega) (by omega) (by omega) ?_
      refine x_icmp_ge Z 25 dX4_isPlace_18 (by decide) ⟨by omega, by omega⟩ ⟨by omega, by omega⟩ (fun c18 => ?_) (fun c18 => ?_)
      ·
        refine x_ib false Z dX4_isPlace_25 (by decide) ?_
        exact x_zret Z E (⟨_, rfl, rfl, by first | exact ⟨fun _ => by omega, fun _ => rfl⟩ | exact ⟨fun h => absurd h (by decide), fun h => by omega⟩⟩) dX4_isPlace_26 (Nat.le_of_ble_eq_true rfl) (Nat.le_of_ble_eq_true rfl)
      ·
        refine x_ib true Z dX4_isPlace_21 (by decide) ?_
        refine x_goto Z 26 dX4_isPlace_22 (by decide) ?_
        exact x_zret Z E (⟨_, rfl, rfl, by first | exact ⟨fun _ => by omega, fun _ => rfl⟩ | exact ⟨fun h => absurd h (by decide), fun h => by omega⟩⟩) dX4_isPlace_26 (Nat.le_of_ble_eq_true rfl) (Nat.le_of_ble_eq_true rfl)
abbrev rmc_X4_isSo0 : Room := { frames := 1, cells := 0, slots := 0, locals := 20 }
set_option maxRecDepth 100000 in
theorem c_X4_isSo0 {l : Launch} {s0 : State} {G : gK} {w : wd} (h0 : gS0 s0) (htr : l.stackTraces = false) {R : rA} {S : rM} {c q : Int} (hS : rS G w R S) (h1 : 0 ≤ c) (h2 : c ≤ 255) (h3 : 0 ≤ q) (h4 : q ≤ 13) (hq12 : q ≠ 12) : gM l s0 G yX4_isSo [Cond.code yX4_isSo cX4_isSo 4 (some .boolean)] rmc_X4_isSo0 [rv R.1, iv c, iv q] w (fun v w' => v = some (iv (b2 (so c q))) ∧ w' = w) (noX) := by
  refine g_of h0 htr (by decide +kernel) (Nat.le_of_ble_eq_true rfl) ?_
  intro b Z0 E
  have Z : gAm b l s0 G cX4_isSo RX4 4 rmc_X4_isSo0 := Z0
  refine x_el (L' := [(0, rv R.1), (1, iv c), (2, iv q)]) rfl ?_
  obtain ⟨hr1, hr2, ⟨f3, hr3, hf3⟩, hr4, hr5, hr6⟩ := id hS
  have hkc := kin_in c
  refine x_aload_n Z dX4_isSo_0 rfl rfl ?_
  refine x_getf (ci := 5) (j := 0) (C := RX4) (T := TX4) (N := 7) Z inX4g rfl (by decide) q1041 rfl dX4_isSo_1 (by assumption) rfl ?_
  refine x_iload_n Z dX4_isSo_4 rfl rfl ?_
  refine x_iald Z dX4_isSo_5 (by assumption) (by omega) (by omega) (by omega) ?_
  refine x_istore_n (L' := [(3, _), (0, _), (1, _), (2, _)]) Z dX4_isSo_6 rfl (Nat.le_of_ble_eq_true rfl) rfl ?_
  refine x_iload_n Z dX4_isSo_7 rfl rfl ?_
  rcases (by omega : (q < 0 ∨ 12 < q) ∨ q = 0 ∨ q = 1 ∨ q = 2 ∨ q = 3 ∨ q = 4 ∨ q = 5 ∨ q = 6 ∨ q = 7 ∨ q = 8 ∨ q = 9 ∨ q = 10 ∨ q = 11 ∨ q = 12) with hs | hs | hs | hs | hs | hs | hs | hs | hs | hs | hs | hs | hs | hs
  ·
    refine x_tabOut Z 271 dX4_isSo_8 ⟨by omega, by omega⟩ (by omega) (by decide) ?_
    refine x_iload_n Z dX4_isSo_271 rfl rfl ?_
    refine x_bipush Z dX4_isSo_272 (by decide +kernel) ?_
    refine x_icmp_eq Z 290 dX4_isSo_274 (by decide) ⟨by omega, by omega⟩ ⟨by omega, by omega⟩ (fun c274 => ?_) (fun c274 => ?_)
    ·
      refine x_ib true Z dX4_isSo_290 (by decide) ?_
      refine x_goto Z 295 dX4_isSo_291 (by decide) ?_
      exact x_zret Z E (⟨by rw [show q = 13 by omega, (soR' h1 h2).2.2.2.2.2.2.2.2.2.2.2.2.2]; first | (rw [decide_eq_true (by omega)]; done) | (rw [decide_eq_false (by omega)]; done), rfl⟩) dX4_isSo_295 (Nat.le_of_ble_eq_true rfl) (Nat.le_of_ble_eq_true rfl)
    ·
      refine x_iload_n Z dX4_isSo_277 rfl rfl ?_
      refine x_bipush Z dX4_isSo_278 (by decide +kernel) ?_
      refine x_icmp_ne Z 294 dX4_isSo_280 (by decide) ⟨by omega, by omega⟩ ⟨by omega, by omega⟩ (fun c280 => ?_) (fun c280 => ?_)
      ·
        refine x_ib false Z dX4_isSo_294 (by decide) ?_
        exact x_zret Z E (⟨by rw [show q = 13 by omega, (soR' h1 h2).2.2.2.2.2.2.2.2.2.2.2.2.2]; first | (rw [decide_eq_true (by omega)]; done) | (rw [decide_eq_false (by omega)]; done), rfl⟩) dX4_isSo_295 (Nat.le_of_ble_eq_true rfl) (Nat.le_of_ble_eq_true rfl)
      ·
        refine x_iload_n Z dX4_isSo_283 rfl rfl ?_
        refine x_callS Z okX4_isBlank q1152 q1153 dX4_isSo_284 (c_X4_isBlank h0 htr ⟨by omega, by omega⟩) ⟨Nat.le_of_ble_eq_true rfl, Nat.le_of_ble_eq_true rfl, Nat.le_of_ble_eq_true rfl, Nat.le_of_ble_eq_true rfl⟩ rfl rfl (Nat.le_of_ble_eq_true rfl) (fun v9 w9 hR => ?_)
        obtain ⟨o9, rfl, e9, hq⟩ := hR
        refine x_ew e9 ?_
        simp only [Option.toList_some, Option.toList_none, List.cons_append, List.nil_append]
        refine x_ifb_ne Z 294 dX4_isSo_287 (by decide) (fun c287 => ?_) (fun c287 => ?_)
        ·
          have f287 := bq_t hq c287
          refine x_ib false Z dX4_isSo_294 (by decide) ?_
          exact x_zret Z E (⟨by rw [show q = 13 by omega, (soR' h1 h2).2.2.2.2.2.2.2.2.2.2.2.2.2]; first | (rw [decide_eq_true (by omega)]; done) | (rw [decide_eq_false (by omega)]; done), rfl⟩) dX4_isSo_295 (Nat.le_of_ble_eq_true rfl) (Nat.le_of_ble_eq_true rfl)
        ·
          have f287 := bq_f hq c287
          refine x_ib true Z dX4_isSo_290 (by decide) ?_
          refine x_goto Z 295 dX4_isSo_291 (by decide) ?_
          exact x_zret Z E (⟨by rw [show q = 13 by omega, (soR' h1 h2).2.2.2.2.2.2.2.2.2.2.2.2.2]; first | (rw [decide_eq_true (by omega)]; done) | (rw [decide_eq_false (by omega)]; done), rfl⟩) dX4_isSo_295 (Nat.le_of_ble_eq_true rfl) (Nat.le_of_ble_eq_true rfl)
  ·
    refine x_tabIn Z 76 dX4_isSo_8 ⟨by omega, by omega⟩ (by omega) (by omega) (by rw [hs]; rfl) (by decide) ?_
    refine x_ib true Z dX4_isSo_76 (by decide) ?_
    exact x_zret Z E (⟨by rw [hs, (soR' h1 h2).1], rfl⟩) dX4_isSo_77 (Nat.le_of_ble_eq_true rfl) (Nat.le_of_ble_eq_true rfl)
  ·
    refine x_tabIn Z 78 dX4_isSo_8 ⟨by omega, by omega⟩ (by omega) (by omega) (by rw [hs]; rfl) (by decide) ?_
    refine x_iload_n Z dX4_isSo_78 rfl rfl ?_
    refine x_callS Z okX4_isLetter q1149 q1150 dX4_isSo_79 (c_X4_isLetter h0 htr ⟨by omega, by omega⟩) ⟨Nat.le_of_ble_eq_true rfl, Nat.le_of_ble_eq_true rfl, Nat.le_of_ble_eq_true rfl, Nat.le_of_ble_eq_true rfl⟩ rfl rfl (Nat.le_of_ble_eq_true rfl) (fun v9 w9 hR => ?_)
    obtain ⟨o9, rfl, e9, hq⟩ := hR
    refine x_ew e9 ?_
    simp only [Option.toList_some, Option.toList_none, List.cons_append, List.nil_append]
    exact x_zret Z E (⟨by rw [hs, (soR' h1 h2).2.1, bq_d hq], rfl⟩) dX4_isSo_82 (Nat.le_of_ble_eq_true rfl) (Nat.le_of_ble_eq_true rfl)
  ·
    refine x_tabIn Z 83 dX4_isSo_8 ⟨by omega, by omega⟩ (by omega) (by omega) (by rw [hs]; rfl) (by decide) ?_
    refine x_iload_n Z dX4_isSo_83 rfl rfl ?_
    refine x_bipush Z dX4_isSo_84 (by decide +kernel) ?_
    refine x_icmp_ne Z 93 dX4_isSo_86 (by decide) ⟨by omega, by omega⟩ ⟨by omega, by omega⟩ (fun c86 => ?_) (fun c86 => ?_)
    ·
      refine x_ib false Z dX4_isSo_93 (by decide) ?_
      exact x_zret Z E (⟨by rw [hs, (soR' h1 h2).2.2.1]; first | (rw [decide_eq_true (by omega)]; done) | (rw [decide_eq_false (by omega)]; done), rfl⟩) dX4_isSo_94 (Nat.le_of_ble_eq_true rfl) (Nat.le_of_ble_eq_true rfl)
    ·
      refine x_ib true Z dX4_isSo_89 (by decide) ?_
      refine x_goto Z 94 dX4_isSo_90 (by decide) ?_
      exact x_zret Z E (⟨by rw [hs, (soR' h1 h2).2.2.1]; first | (rw [decide_eq_true (by omega)]; done) | (rw [decide_eq_false (by omega)]; done), rfl⟩) dX4_isSo_94 (Nat.le_of_ble_eq_true rfl) (Nat.le_of_ble_eq_true rfl)
  ·
    refine x_tabIn Z 95 dX4_isSo_8 ⟨by omega, by omega⟩ (by omega) (by omega) (by rw [hs]; rfl) (by decide) ?_
    refine x_iload_n Z dX4_isSo_95 rfl rfl ?_
    refine x_callS Z okX4_isLetter q1149 q1150 dX4_isSo_96 (c_X4_isLetter h0 htr ⟨by omega, by omega⟩) ⟨Nat.le_of_ble_eq_true rfl, Nat.le_of_ble_eq_true rfl, Nat.le_of_ble_eq_true rfl, Nat.le_of_ble_eq_true rfl⟩ rfl rfl (Nat.le_of_ble_eq_true rfl) (fun v9 w9 hR => ?_)
    obtain ⟨o9, rfl, e9, hq⟩ := hR
    refine x_ew e9 ?_
    simp only [Option.toList_some, Option.toList_none, List.cons_append, List.nil_append]
    refine x_ifb_ne Z 108 dX4_isSo_99 (by decide) (fun c99 => ?_) (fun c99 => ?_)
    ·
      have f99 := bq_t hq c99
      refine x_ib true Z dX4_isSo_108 (by decide) ?_
      refine x_goto Z 113 dX4_isSo_109 (by decide) ?_
      exact x_zret Z E (⟨by rw [hs, (soR' h1 h2).2.2.2.1]; first | (rw [decide_eq_true (by omega)]; done) | (rw [decide_eq_false (by omega)]; done), rfl⟩) dX4_isSo_113 (Nat.le_of_ble_eq_true rfl) (Nat.le_of_ble_eq_true rfl)
    ·
      have f99 := bq_f hq c99
      refine x_iload_n Z dX4_isSo_102 rfl rfl ?_
      refine x_bipush Z dX4_isSo_103 (by decide +kernel) ?_
      refine x_icmp_ne Z 112 dX4_isSo_105 (by decide) ⟨by omega, by omega⟩ ⟨by omega, by omega⟩ (fun c105 => ?_) (fun c105 => ?_)
      ·
        refine x_ib false Z dX4_isSo_112 (by decide) ?_
        exact x_zret Z E (⟨by rw [hs, (soR' h1 h2).2.2.2.1]; first | (rw [decide_eq_true (by omega)]; done) | (rw [decide_eq_false (by omega)]; done), rfl⟩) dX4_isSo_113 (Nat.le_of_ble_eq_true rfl) (Nat.le_of_ble_eq_true rfl)
      ·
        refine x_ib true Z dX4_isSo_108 (by decide) ?_
        refine x_goto Z 113 dX4_isSo_109 (by decide) ?_
        exact x_zret Z E (⟨by rw [hs, (soR' h1 h2).2.2.2.1]; first | (rw [decide_eq_true (by omega)]; done) | (rw [decide_eq_false (by omega)]; done), rfl⟩) dX4_isSo_113 (Nat.le_of_ble_eq_true rfl) (Nat.le_of_ble_eq_true rfl)
  ·
    refine x_tabIn Z 114 dX4_isSo_8 ⟨by omega, by omega⟩ (by omega) (by omega) (by rw [hs]; rfl) (by decide) ?_
    refine x_iload_n Z dX4_isSo_114 rfl rfl ?_
    refine x_iconst Z dX4_isSo_115 ?_
    refine x_icmp_ne Z 123 dX4_isSo_116 (by decide) ⟨by omega, by omega⟩ ⟨by omega, by omega⟩ (fun c116 => ?_) (fun c116 => ?_)
    ·
      refine x_ib false Z dX4_isSo_123 (by decide) ?_
      exact x_zret Z E (⟨by rw [hs, (soR' h1 h2).2.2.2.2.1]; first | (rw [decide_eq_true (by omega)]; done) | (rw [decide_eq_false (by omega)]; done), rfl⟩) dX4_isSo_124 (Nat.le_of_ble_eq_true rfl) (Nat.le_of_ble_eq_true rfl)
    ·
      refine x_ib true Z dX4_isSo_119 (by decide) ?_
      refine x_goto Z 124 dX4_isSo_120 (by decide) ?_
      exact x_zret Z E (⟨by rw [hs, (soR' h1 h2).2.2.2.2.1]; first | (rw [decide_eq_true (by omega)]; done) | (rw [decide_eq_false (by omega)]; done), rfl⟩) dX4_isSo_124 (Nat.le_of_ble_eq_true rfl) (Nat.le_of_ble_eq_true rfl)
  ·
    refine x_tabIn Z 125 dX4_isSo_8 ⟨by omega, by omega⟩ (by omega) (by omega) (by rw [hs]; rfl) (by decide) ?_
    refine x_iload_n Z dX4_isSo_125 rfl rfl ?_
    refine x_iconst Z dX4_isSo_126 ?_
    refine x_icmp_eq Z 135 dX4_isSo_127 (by decide) ⟨by omega, by omega⟩ ⟨by omega, by omega⟩ (fun c127 => ?_) (fun c127 => ?_)
    ·
      refine x_ib true Z dX4_isSo_135 (by decide) ?_
      refine x_goto Z 140 dX4_isSo_136 (by decide) ?_
      exact x_zret Z E (⟨by rw [hs, (soR' h1 h2).2.2.2.2.2.1]; first | (rw [decide_eq_true (by omega)]; done) | (rw [decide_eq_false (by omega)]; done), rfl⟩) dX4_isSo_140 (Nat.le_of_ble_eq_true rfl) (Nat.le_of_ble_eq_true rfl)
    ·
      refine x_iload_n Z dX4_isSo_130 rfl rfl ?_
      refine x_iconst Z dX4_isSo_131 ?_
      refine x_icmp_ne Z 139 dX4_isSo_132 (by decide) ⟨by omega, by omega⟩ ⟨by omega, by omega⟩ (fun c132 => ?_) (fun c132 => ?_)
      ·
        refine x_ib false Z dX4_isSo_139 (by decide) ?_
        exact x_zret Z E (⟨by rw [hs, (soR' h1 h2).2.2.2.2.2.1]; first | (rw [decide_eq_true (by omega)]; done) | (rw [decide_eq_false (by omega)]; done), rfl⟩) dX4_isSo_140 (Nat.le_of_ble_eq_true rfl) (Nat.le_of_ble_eq_true rfl)
      ·
        refine x_ib true Z dX4_isSo_135 (by decide) ?_
        refine x_goto Z 140 dX4_isSo_136 (by decide) ?_
        exact x_zret Z E (⟨by rw [hs, (soR' h1 h2).2.2.2.2.2.1]; first | (rw [decide_eq_true (by omega)]; done) | (rw [decide_eq_false (by omega)]; done), rfl⟩) dX4_isSo_140 (Nat.le_of_ble_eq_true rfl) (Nat.le_of_ble_eq_true rfl)
  ·
    refine x_tabIn Z 141 dX4_isSo_8 ⟨by omega, by omega⟩ (by omega) (by omega) (by rw [hs]; rfl) (by decide) ?_
    refine x_ib false Z dX4_isSo_141 (by decide) ?_
    exact x_zret Z E (⟨by rw [hs, (soR' h1 h2).2.2.2.2.2.2.1], rfl⟩) dX4_isSo_142 (Nat.le_of_ble_eq_true rfl) (Nat.le_of_ble_eq_true rfl)
  ·
    refine x_tabIn Z 143 dX4_isSo_8 ⟨by omega, by omega⟩ (by omega) (by omega) (by rw [hs]; rfl) (by decide) ?_
    refine x_iload_n Z dX4_isSo_143 rfl rfl ?_
    refine x_callS Z okX4_isBlank q1152 q1153 dX4_isSo_144 (c_X4_isBlank h0 htr ⟨by omega, by omega⟩) ⟨Nat.le_of_ble_eq_true rfl, Nat.le_of_ble_eq_true rfl, Nat.le_of_ble_eq_true rfl, Nat.le_of_ble_eq_true rfl⟩ rfl rfl (Nat.le_of_ble_eq_true rfl) (fun v9 w9 hR => ?_)
    obtain ⟨o9, rfl, e9, hq⟩ := hR
    refine x_ew e9 ?_
    simp only [Option.toList_some, Option.toList_none, List.cons_append, List.nil_append]
    exact x_zret Z E (⟨by rw [hs, (soR' h1 h2).2.2.2.2.2.2.2.1, bq_d hq], rfl⟩) dX4_isSo_147 (Nat.le_of_ble_eq_true rfl) (Nat.le_of_ble_eq_true rfl)
  ·
    refine x_tabIn Z 148 dX4_isSo_8 ⟨by omega, by omega⟩ (by omega) (by omega) (by rw [hs]; rfl) (by decide) ?_
    refine x_iload_n Z dX4_isSo_148 rfl rfl ?_
    refine x_bipush Z dX4_isSo_149 (by decide +kernel) ?_
    refine x_icmp_ne Z 158 dX4_isSo_151 (by decide) ⟨by omega, by omega⟩ ⟨by omega, by omega⟩ (fun c151 => ?_) (fun c151 => ?_)
    ·
      refine x_ib false Z dX4_isSo_158 (by decide) ?_
      exact x_zret Z E (⟨by rw [hs, (soR' h1 h2).2.2.2.2.2.2.2.2.1]; first | (rw [decide_eq_true (by omega)]; done) | (rw [decide_eq_false (by omega)]; done), rfl⟩) dX4_isSo_159 (Nat.le_of_ble_eq_true rfl) (Nat.le_of_ble_eq_true rfl)
    ·
      refine x_ib true Z dX4_isSo_154 (by decide) ?_
      refine x_goto Z 159 dX4_isSo_155 (by decide) ?_
      exact x_zret Z E (⟨by rw [hs, (soR' h1 h2).2.2.2.2.2.2.2.2.1]; first | (rw [decide_eq_true (by omega)]; done) | (rw [decide_eq_false (by omega)]; done), rfl⟩) dX4_isSo_159 (Nat.le_of_ble_eq_true rfl) (Nat.le_of_ble_eq_true rfl)
  ·
    refine x_tabIn Z 160 dX4_isSo_8 ⟨by omega, by omega⟩ (by omega) (by omega) (by rw [hs]; rfl) (by decide) ?_
    refine x_iload_n Z dX4_isSo_160 rfl rfl ?_
    refine x_bipush Z dX4_isSo_161 (by decide +kernel) ?_
    refine x_icmp_ne Z 170 dX4_isSo_163 (by decide) ⟨by omega, by omega⟩ ⟨by omega, by omega⟩ (fun c163 => ?_) (fun c163 => ?_)
    ·
      refine x_ib false Z dX4_isSo_170 (by decide) ?_
      exact x_zret Z E (⟨by rw [hs, (soR' h1 h2).2.2.2.2.2.2.2.2.2.1]; first | (rw [decide_eq_true (by omega)]; done) | (rw [decide_eq_false (by omega)]; done), rfl⟩) dX4_isSo_171 (Nat.le_of_ble_eq_true rfl) (Nat.le_of_ble_eq_true rfl)
    ·
      refine x_ib true Z dX4_isSo_166 (by decide) ?_
      refine x_goto Z 171 dX4_isSo_167 (by decide) ?_
      exact x_zret Z E (⟨by rw [hs, (soR' h1 h2).2.2.2.2.2.2.2.2.2.1]; first | (rw [decide_eq_true (by omega)]; done) | (rw [decide_eq_false (by omega)]; done), rfl⟩) dX4_isSo_171 (Nat.le_of_ble_eq_true rfl) (Nat.le_of_ble_eq_true rfl)
  ·
    refine x_tabIn Z 172 dX4_isSo_8 ⟨by omega, by omega⟩ (by omega) (by omega) (by rw [hs]; rfl) (by decide) ?_
    refine x_iload_n Z dX4_isSo_172 rfl rfl ?_
    refine x_bipush Z dX4_isSo_173 (by decide +kernel) ?_
    refine x_icmp_eq Z 208 dX4_isSo_175 (by decide) ⟨by omega, by omega⟩ ⟨by omega, by omega⟩ (fun c175 => ?_) (fun c175 => ?_)
    ·
      refine x_ib true Z dX4_isSo_208 (by decide) ?_
      refine x_goto Z 213 dX4_isSo_209 (by decide) ?_
      exact x_zret Z E (⟨by rw [hs, (soR' h1 h2).2.2.2.2.2.2.2.2.2.2.1]; first | (rw [decide_eq_true (by omega)]; done) | (rw [decide_eq_false (by omega)]; done), rfl⟩) dX4_isSo_213 (Nat.le_of_ble_eq_true rfl) (Nat.le_of_ble_eq_true rfl)
    ·
      refine x_iload_n Z dX4_isSo_178 rfl rfl ?_
      refine x_bipush Z dX4_isSo_179 (by decide +kernel) ?_
      refine x_icmp_eq Z 208 dX4_isSo_181 (by decide) ⟨by omega, by omega⟩ ⟨by omega, by omega⟩ (fun c181 => ?_) (fun c181 => ?_)
      ·
        refine x_ib true Z dX4_isSo_208 (by decide) ?_
        refine x_goto Z 213 dX4_isSo_209 (by decide) ?_
        exact x_zret Z E (⟨by rw [hs, (soR' h1 h2).2.2.2.2.2.2.2.2.2.2.1]; first | (rw [decide_eq_true (by omega)]; done) | (rw [decide_eq_false (by omega)]; done), rfl⟩) dX4_isSo_213 (Nat.le_of_ble_eq_true rfl) (Nat.le_of_ble_eq_true rfl)
      ·
        refine x_iload_n Z dX4_isSo_184 rfl rfl ?_
        refine x_bipush Z dX4_isSo_185 (by decide +kernel) ?_
        refine x_icmp_eq Z 208 dX4_isSo_187 (by decide) ⟨by omega, by omega⟩ ⟨by omega, by omega⟩ (fun c187 => ?_) (fun c187 => ?_)
        ·
          refine x_ib true Z dX4_isSo_208 (by decide) ?_
          refine x_goto Z 213 dX4_isSo_209 (by decide) ?_
          exact x_zret Z E (⟨by rw [hs, (soR' h1 h2).2.2.2.2.2.2.2.2.2.2.1]; first | (rw [decide_eq_true (by omega)]; done) | (rw [decide_eq_false (by omega)]; done), rfl⟩) dX4_isSo_213 (Nat.le_of_ble_eq_true rfl) (Nat.le_of_ble_eq_true rfl)
        ·
          refine x_iload_n Z dX4_isSo_190 rfl rfl ?_
          refine x_bipush Z dX4_isSo_191 (by decide +kernel) ?_
          refine x_icmp_eq Z 208 dX4_isSo_193 (by decide) ⟨by omega, by omega⟩ ⟨by omega, by omega⟩ (fun c193 => ?_) (fun c193 => ?_)
          ·
            refine x_ib true Z dX4_isSo_208 (by decide) ?_
            refine x_goto Z 213 dX4_isSo_209 (by decide) ?_
            exact x_zret Z E (⟨by rw [hs, (soR' h1 h2).2.2.2.2.2.2.2.2.2.2.1]; first | (rw [decide_eq_true (by omega)]; done) | (rw [decide_eq_false (by omega)]; done), rfl⟩) dX4_isSo_213 (Nat.le_of_ble_eq_true rfl) (Nat.le_of_ble_eq_true rfl)
          ·
            refine x_iload_n Z dX4_isSo_196 rfl rfl ?_
            refine x_bipush Z dX4_isSo_197 (by decide +kernel) ?_
            refine x_icmp_eq Z 208 dX4_isSo_199 (by decide) ⟨by omega, by omega⟩ ⟨by omega, by omega⟩ (fun c199 => ?_) (fun c199 => ?_)
            ·
              refine x_ib true Z dX4_isSo_208 (by decide) ?_
              refine x_goto Z 213 dX4_isSo_209 (by decide) ?_
              exact x_zret Z E (⟨by rw [hs, (soR' h1 h2).2.2.2.2.2.2.2.2.2.2.1]; first | (rw [decide_eq_true (by omega)]; done) | (rw [decide_eq_false (by omega)]; done), rfl⟩) dX4_isSo_213 (Nat.le_of_ble_eq_true rfl) (Nat.le_of_ble_eq_true rfl)
            ·
              refine x_iload_n Z dX4_isSo_202 rfl rfl ?_
              refine x_bipush Z dX4_isSo_203 (by decide +kernel) ?_
              refine x_icmp_ne Z 212 dX4_isSo_205 (by decide) ⟨by omega, by omega⟩ ⟨by omega, by omega⟩ (fun c205 => ?_) (fun c205 => ?_)
              ·
                refine x_ib false Z dX4_isSo_212 (by decide) ?_
                exact x_zret Z E (⟨by rw [hs, (soR' h1 h2).2.2.2.2.2.2.2.2.2.2.1]; first | (rw [decide_eq_true (by omega)]; done) | (rw [decide_eq_false (by omega)]; done), rfl⟩) dX4_isSo_213 (Nat.le_of_ble_eq_true rfl) (Nat.le_of_ble_eq_true rfl)
              ·
                refine x_ib true Z dX4_isSo_208 (by decide) ?_
                refine x_goto Z 213 dX4_isSo_209 (by decide) ?_
                exact x_zret Z E (⟨by rw [hs, (soR' h1 h2).2.2.2.2.2.2.2.2.2.2.1]; first | (rw [decide_eq_true (by omega)]; done) | (rw [decide_eq_false (by omega)]; done), rfl⟩) dX4_isSo_213 (Nat.le_of_ble_eq_true rfl) (Nat.le_of_ble_eq_true rfl)
  ·
    refine x_tabIn Z 214 dX4_isSo_8 ⟨by omega, by omega⟩ (by omega) (by omega) (by rw [hs]; rfl) (by decide) ?_
    refine x_iload_n Z dX4_isSo_214 rfl rfl ?_
    refine x_callS Z okX4_isLetter q1149 q1150 dX4_isSo_215 (c_X4_isLetter h0 htr ⟨by omega, by omega⟩) ⟨Nat.le_of_ble_eq_true rfl, Nat.le_of_ble_eq_true rfl, Nat.le_of_ble_eq_true rfl, Nat.le_of_ble_eq_true rfl⟩ rfl rfl (Nat.le_of_ble_eq_true rfl) (fun v9 w9 hR => ?_)
    obtain ⟨o9, rfl, e9, hq⟩ := hR
    refine x_ew e9 ?_
    simp only [Option.toList_some, Option.toList_none, List.cons_append, List.nil_append]
    refine x_ifb_ne Z 233 dX4_isSo_218 (by decide) (fun c218 => ?_) (fun c218 => ?_)
    ·
      have f218 := bq_t hq c218
      refine x_ib true Z dX4_isSo_233 (by decide) ?_
      refine x_goto Z 238 dX4_isSo_234 (by decide) ?_
      exact x_zret Z E (⟨by rw [hs, (soR' h1 h2).2.2.2.2.2.2.2.2.2.2.2.1]; first | (rw [decide_eq_true (by omega)]; done) | (rw [decide_eq_false (by omega)]; done), rfl⟩) dX4_isSo_238 (Nat.le_of_ble_eq_true rfl) (Nat.le_of_ble_eq_true rfl)
    ·
      have f218 := bq_f hq c218
      refine x_iload_n Z dX4_isSo_221 rfl rfl ?_
      refine x_bipush Z dX4_isSo_222 (by decide +kernel) ?_
      refine x_icmp_eq Z 233 dX4_isSo_224 (by decide) ⟨by omega, by omega⟩ ⟨by omega, by omega⟩ (fun c224 => ?_) (fun c224 => ?_)
      ·
        refine x_ib true Z dX4_isSo_233 (by decide) ?_
        refine x_goto Z 238 dX4_isSo_234 (by decide) ?_
        exact x_zret Z E (⟨by rw [hs, (soR' h1 h2).2.2.2.2.2.2.2.2.2.2.2.1]; first | (rw [decide_eq_true (by omega)]; done) | (rw [decide_eq_false (by omega)]; done), rfl⟩) dX4_isSo_238 (Nat.le_of_ble_eq_true rfl) (Nat.le_of_ble_eq_true rfl)
      ·
        refine x_iload_n Z dX4_isSo_227 rfl rfl ?_
        refine x_bipush Z dX4_isSo_228 (by decide +kernel) ?_
        refine x_icmp_ne Z 237 dX4_isSo_230 (by decide) ⟨by omega, by omega⟩ ⟨by omega, by omega⟩ (fun c230 => ?_) (fun c230 => ?_)
        ·
          refine x_ib false Z dX4_isSo_237 (by decide) ?_
          exact x_zret Z E (⟨by rw [hs, (soR' h1 h2).2.2.2.2.2.2.2.2.2.2.2.1]; first | (rw [decide_eq_true (by omega)]; done) | (rw [decide_eq_false (by omega)]; done), rfl⟩) dX4_isSo_238 (Nat.le_of_ble_eq_true rfl) (Nat.le_of_ble_eq_true rfl)
        ·
          refine x_ib true Z dX4_isSo_233 (by decide) ?_
          refine x_goto Z 238 dX4_isSo_234 (by decide) ?_
          exact x_zret Z E (⟨by rw [hs, (soR' h1 h2).2.2.2.2.2.2.2.2.2.2.2.1]; first | (rw [decide_eq_true (by omega)]; done) | (rw [decide_eq_false (by omega)]; done), rfl⟩) dX4_isSo_238 (Nat.le_of_ble_eq_true rfl) (Nat.le_of_ble_eq_true rfl)
  ·
    exact absurd hs hq12
abbrev rmc_X4_isSo : Room := { frames := 2, cells := 0, slots := 0, locals := 43 }
set_option maxRecDepth 100000 in
theorem c_X4_isSo {l : Launch} {s0 : State} {G : gK} {w : wd} (h0 : gS0 s0) (htr : l.stackTraces = false) {R : rA} {S : rM} {c q : Int} (hS : rS G w R S) (h1 : 0 ≤ c) (h2 : c ≤ 255) (h3 : 0 ≤ q) (h4 : q ≤ 13) : gM l s0 G yX4_isSo [Cond.code yX4_isSo cX4_isSo 4 (some .boolean)] rmc_X4_isSo [rv R.1, iv c, iv q] w (fun v w' => v = some (iv (b2 (so c q))) ∧ w' = w) (noX) := by
  refine g_of h0 htr (by decide +kernel) (Nat.le_of_ble_eq_true rfl) ?_
  intro b Z0 E
  have Z : gAm b l s0 G cX4_isSo RX4 4 rmc_X4_isSo := Z0
  refine x_el (L' := [(0, rv R.1), (1, iv c), (2, iv q)]) rfl ?_
  obtain ⟨hr1, hr2, ⟨f3, hr3, hf3⟩, hr4, hr5, hr6⟩ := id hS
  have hkc := kin_in c
  refine x_aload_n Z dX4_isSo_0 rfl rfl ?_
  refine x_getf (ci := 5) (j := 0) (C := RX4) (T := TX4) (N := 7) Z inX4g rfl (by decide) q1041 rfl dX4_isSo_1 (by assumption) rfl ?_
  refine x_iload_n Z dX4_isSo_4 rfl rfl ?_
  refine x_iald Z dX4_isSo_5 (by assumption) (by omega) (by omega) (by omega) ?_
  refine x_istore_n (L' := [(3, _), (0, _), (1, _), (2, _)]) Z dX4_isSo_6 rfl (Nat.le_of_ble_eq_true rfl) rfl ?_
  refine x_iload_n Z dX4_isSo_7 rfl rfl ?_
  rcases (by omega : (q < 0 ∨ 12 < q) ∨ q = 0 ∨ q = 1 ∨ q = 2 ∨ q = 3 ∨ q = 4 ∨ q = 5 ∨ q = 6 ∨ q = 7 ∨ q = 8 ∨ q = 9 ∨ q = 10 ∨ q = 11 ∨ q = 12) with hs | hs | hs | hs | hs | hs | hs | hs | hs | hs | hs | hs | hs | hs
  ·
    refine x_tabOut Z 271 dX4_isSo_8 ⟨by omega, by omega⟩ (by omega) (by decide) ?_
    refine x_iload_n Z dX4_isSo_271 rfl rfl ?_
    refine x_bipush Z dX4_isSo_272 (by decide +kernel) ?_
    refine x_icmp_eq Z 290 dX4_isSo_274 (by decide) ⟨by omega, by omega⟩ ⟨by omega, by omega⟩ (fun c274 => ?_) (fun c274 => ?_)
    ·
      refine x_ib true Z dX4_isSo_290 (by decide) ?_
      refine x_goto Z 295 dX4_isSo_291 (by decide) ?_
      exact x_zret Z E (⟨by rw [show q = 13 by omega, (soR' h1 h2).2.2.2.2.2.2.2.2.2.2.2.2.2]; first | (rw [decide_eq_true (by omega)]; done) | (rw [decide_eq_false (by omega)]; done), rfl⟩) dX4_isSo_295 (Nat.le_of_ble_eq_true rfl) (Nat.le_of_ble_eq_true rfl)
    ·
      refine x_iload_n Z dX4_isSo_277 rfl rfl ?_
      refine x_bipush Z dX4_isSo_278 (by decide +kernel) ?_
      refine x_icmp_ne Z 294 dX4_isSo_280 (by decide) ⟨by omega, by omega⟩ ⟨by omega, by omega⟩ (fun c280 => ?_) (fun c280 => ?_)
      ·
        refine x_ib false Z dX4_isSo_294 (by decide) ?_
        exact x_zret Z E (⟨by rw [show q = 13 by omega, (soR' h1 h2).2.2.2.2.2.2.2.2.2.2.2.2.2]; first | (rw [decide_eq_true (by omega)]; done) | (rw [decide_eq_false (by omega)]; done), rfl⟩) dX4_isSo_295 (Nat.le_of_ble_eq_true rfl) (Nat.le_of_ble_eq_true rfl)
      ·
        refine x_iload_n Z dX4_isSo_283 rfl rfl ?_
        refine x_callS Z okX4_isBlank q1152 q1153 dX4_isSo_284 (c_X4_isBlank h0 htr ⟨by omega, by omega⟩) ⟨Nat.le_of_ble_eq_true rfl, Nat.le_of_ble_eq_true rfl, Nat.le_of_ble_eq_true rfl, Nat.le_of_ble_eq_true rfl⟩ rfl rfl (Nat.le_of_ble_eq_true rfl) (fun v9 w9 hR => ?_)
        obtain ⟨o9, rfl, e9, hq⟩ := hR
        refine x_ew e9 ?_
        simp only [Option.toList_some, Option.toList_none, List.cons_append, List.nil_append]
        refine x_ifb_ne Z 294 dX4_isSo_287 (by decide) (fun c287 => ?_) (fun c287 => ?_)
        ·
          have f287 := bq_t hq c287
          refine x_ib false Z dX4_isSo_294 (by decide) ?_
          exact x_zret Z E (⟨by rw [show q = 13 by omega, (soR' h1 h2).2.2.2.2.2.2.2.2.2.2.2.2.2]; first | (rw [decide_eq_true (by omega)]; done) | (rw [decide_eq_false (by omega)]; done), rfl⟩) dX4_isSo_295 (Nat.le_of_ble_eq_true rfl) (Nat.le_of_ble_eq_true rfl)
        ·
          have f287 := bq_f hq c287
          refine x_ib true Z dX4_isSo_290 (by decide) ?_
          refine x_goto Z 295 dX4_isSo_291 (by decide) ?_
          exact x_zret Z E (⟨by rw [show q = 13 by omega, (soR' h1 h2).2.2.2.2.2.2.2.2.2.2.2.2.2]; first | (rw [decide_eq_true (by omega)]; done) | (rw [decide_eq_false (by omega)]; done), rfl⟩) dX4_isSo_295 (Nat.le_of_ble_eq_true rfl) (Nat.le_of_ble_eq_true rfl)
  ·
    refine x_tabIn Z 76 dX4_isSo_8 ⟨by omega, by omega⟩ (by omega) (by omega) (by rw [hs]; rfl) (by decide) ?_
    refine x_ib true Z dX4_isSo_76 (by decide) ?_
    exact x_zret Z E (⟨by rw [hs, (soR' h1 h2).1], rfl⟩) dX4_isSo_77 (Nat.le_of_ble_eq_true rfl) (Nat.le_of_ble_eq_true rfl)
  ·
    refine x_tabIn Z 78 dX4_isSo_8 ⟨by omega, by omega⟩ (by omega) (by omega) (by rw [hs]; rfl) (by decide) ?_
    refine x_iload_n Z dX4_isSo_78 rfl rfl ?_
    refine x_callS Z okX4_isLetter q1149 q1150 dX4_isSo_79 (c_X4_isLetter h0 htr ⟨by omega, by omega⟩) ⟨Nat.le_of_ble_eq_true rfl, Nat.le_of_ble_eq_true rfl, Nat.le_of_ble_eq_true rfl, Nat.le_of_ble_eq_true rfl⟩ rfl rfl (Nat.le_of_ble_eq_true rfl) (fun v9 w9 hR => ?_)
    obtain ⟨o9, rfl, e9, hq⟩ := hR
    refine x_ew e9 ?_
    simp only [Option.toList_some, Option.toList_none, List.cons_append, List.nil_append]
    exact x_zret Z E (⟨by rw [hs, (soR' h1 h2).2.1, bq_d hq], rfl⟩) dX4_isSo_82 (Nat.le_of_ble_eq_true rfl) (Nat.le_of_ble_eq_true rfl)
  ·
    refine x_tabIn Z 83 dX4_isSo_8 ⟨by omega, by omega⟩ (by omega) (by omega) (by rw [hs]; rfl) (by decide) ?_
    refine x_iload_n Z dX4_isSo_83 rfl rfl ?_
    refine x_bipush Z dX4_isSo_84 (by decide +kernel) ?_
    refine x_icmp_ne Z 93 dX4_isSo_86 (by decide) ⟨by omega, by omega⟩ ⟨by omega, by omega⟩ (fun c86 => ?_) (fun c86 => ?_)
    ·
      refine x_ib false Z dX4_isSo_93 (by decide) ?_
      exact x_zret Z E (⟨by rw [hs, (soR' h1 h2).2.2.1]; first | (rw [decide_eq_true (by omega)]; done) | (rw [decide_eq_false (by omega)]; done), rfl⟩) dX4_isSo_94 (Nat.le_of_ble_eq_true rfl) (Nat.le_of_ble_eq_true rfl)
    ·
      refine x_ib true Z dX4_isSo_89 (by decide) ?_
      refine x_goto Z 94 dX4_isSo_90 (by decide) ?_
      exact x_zret Z E (⟨by rw [hs, (soR' h1 h2).2.2.1]; first | (rw [decide_eq_true (by omega)]; done) | (rw [decide_eq_false (by omega)]; done), rfl⟩) dX4_isSo_94 (Nat.le_of_ble_eq_true rfl) (Nat.le_of_ble_eq_true rfl)
  ·
    refine x_tabIn Z 95 dX4_isSo_8 ⟨by omega, by omega⟩ (by omega) (by omega) (by rw [hs]; rfl) (by decide) ?_
    refine x_iload_n Z dX4_isSo_95 rfl rfl ?_
    refine x_callS Z okX4_isLetter q1149 q1150 dX4_isSo_96 (c_X4_isLetter h0 htr ⟨by omega, by omega⟩) ⟨Nat.le_of_ble_eq_true rfl, Nat.le_of_ble_eq_true rfl, Nat.le_of_ble_eq_true rfl, Nat.le_of_ble_eq_true rfl⟩ rfl rfl (Nat.le_of_ble_eq_true rfl) (fun v9 w9 hR => ?_)
    obtain ⟨o9, rfl, e9, hq⟩ := hR
    refine x_ew e9 ?_
    simp only [Option.toList_some, Option.toList_none, List.cons_append, List.nil_append]
    refine x_ifb_ne Z 108 dX4_isSo_99 (by decide) (fun c99 => ?_) (fun c99 => ?_)
    ·
      have f99 := bq_t hq c99
      refine x_ib true Z dX4_isSo_108 (by decide) ?_
      refine x_goto Z 113 dX4_isSo_109 (by decide) ?_
      exact x_zret Z E (⟨by rw [hs, (soR' h1 h2).2.2.2.1]; first | (rw [decide_eq_true (by omega)]; done) | (rw [decide_eq_false (by omega)]; done), rfl⟩) dX4_isSo_113 (Nat.le_of_ble_eq_true rfl) (Nat.le_of_ble_eq_true rfl)
    ·
      have f99 := bq_f hq c99
      refine x_iload_n Z dX4_isSo_102 rfl rfl ?_
      refine x_bipush Z dX4_isSo_103 (by decide +kernel) ?_
      refine x_icmp_ne Z 112 dX4_isSo_105 (by decide) ⟨by omega, by omega⟩ ⟨by omega, by omega⟩ (fun c105 => ?_) (fun c105 => ?_)
      ·
        refine x_ib false Z dX4_isSo_112 (by decide) ?_
        exact x_zret Z E (⟨by rw [hs, (soR' h1 h2).2.2.2.1]; first | (rw [decide_eq_true (by omega)]; done) | (rw [decide_eq_false (by omega)]; done), rfl⟩) dX4_isSo_113 (Nat.le_of_ble_eq_true rfl) (Nat.le_of_ble_eq_true rfl)
      ·
        refine x_ib true Z dX4_isSo_108 (by decide) ?_
        refine x_goto Z 113 dX4_isSo_109 (by decide) ?_
        exact x_zret Z E (⟨by rw [hs, (soR' h1 h2).2.2.2.1]; first | (rw [decide_eq_true (by omega)]; done) | (rw [decide_eq_false (by omega)]; done), rfl⟩) dX4_isSo_113 (Nat.le_of_ble_eq_true rfl) (Nat.le_of_ble_eq_true rfl)
  ·
    refine x_tabIn Z 114 dX4_isSo_8 ⟨by omega, by omega⟩ (by omega) (by omega) (by rw [hs]; rfl) (by decide) ?_
    refine x_iload_n Z dX4_isSo_114 rfl rfl ?_
    refine x_iconst Z dX4_isSo_115 ?_
    refine x_icmp_ne Z 123 dX4_isSo_116 (by decide) ⟨by omega, by omega⟩ ⟨by omega, by omega⟩ (fun c116 => ?_) (fun c116 => ?_)
    ·
      refine x_ib false Z dX4_isSo_123 (by decide) ?_
      exact x_zret Z E (⟨by rw [hs, (soR' h1 h2).2.2.2.2.1]; first | (rw [decide_eq_true (by omega)]; done) | (rw [decide_eq_false (by omega)]; done), rfl⟩) dX4_isSo_124 (Nat.le_of_ble_eq_true rfl) (Nat.le_of_ble_eq_true rfl)
    ·
      refine x_ib true Z dX4_isSo_119 (by decide) ?_
      refine x_goto Z 124 dX4_isSo_120 (by decide) ?_
      exact x_zret Z E (⟨by rw [hs, (soR' h1 h2).2.2.2.2.1]; first | (rw [decide_eq_true (by omega)]; done) | (rw [decide_eq_false (by omega)]; done), rfl⟩) dX4_isSo_124 (Nat.le_of_ble_eq_true rfl) (Nat.le_of_ble_eq_true rfl)
  ·
    refine x_tabIn Z 125 dX4_isSo_8 ⟨by omega, by omega⟩ (by omega) (by omega) (by rw [hs]; rfl) (by decide) ?_
    refine x_iload_n Z dX4_isSo_125 rfl rfl ?_
    refine x_iconst Z dX4_isSo_126 ?_
    refine x_icmp_eq Z 135 dX4_isSo_127 (by decide) ⟨by omega, by omega⟩ ⟨by omega, by omega⟩ (fun c127 => ?_) (fun c127 => ?_)
    ·
      refine x_ib true Z dX4_isSo_135 (by decide) ?_
      refine x_goto Z 140 dX4_isSo_136 (by decide) ?_
      exact x_zret Z E (⟨by rw [hs, (soR' h1 h2).2.2.2.2.2.1]; first | (rw [decide_eq_true (by omega)]; done) | (rw [decide_eq_false (by omega)]; done), rfl⟩) dX4_isSo_140 (Nat.le_of_ble_eq_true rfl) (Nat.le_of_ble_eq_true rfl)
    ·
      refine x_iload_n Z dX4_isSo_130 rfl rfl ?_
      refine x_iconst Z dX4_isSo_131 ?_
      refine x_icmp_ne Z 139 dX4_isSo_132 (by decide) ⟨by omega, by omega⟩ ⟨by omega, by omega⟩ (fun c132 => ?_) (fun c132 => ?_)
      ·
        refine x_ib false Z dX4_isSo_139 (by decide) ?_
        exact x_zret Z E (⟨by rw [hs, (soR' h1 h2).2.2.2.2.2.1]; first | (rw [decide_eq_true (by omega)]; done) | (rw [decide_eq_false (by omega)]; done), rfl⟩) dX4_isSo_140 (Nat.le_of_ble_eq_true rfl) (Nat.le_of_ble_eq_true rfl)
      ·
        refine x_ib true Z dX4_isSo_135 (by decide) ?_
        refine x_goto Z 140 dX4_isSo_136 (by decide) ?_
        exact x_zret Z E (⟨by rw [hs, (soR' h1 h2).2.2.2.2.2.1]; first | (rw [decide_eq_true (by omega)]; done) | (rw [decide_eq_false (by omega)]; done), rfl⟩) dX4_isSo_140 (Nat.le_of_ble_eq_true rfl) (Nat.le_of_ble_eq_true rfl)
  ·
    refine x_tabIn Z 141 dX4_isSo_8 ⟨by omega, by omega⟩ (by omega) (by omega) (by rw [hs]; rfl) (by decide) ?_
    refine x_ib false Z dX4_isSo_141 (by decide) ?_
    exact x_zret Z E (⟨by rw [hs, (soR' h1 h2).2.2.2.2.2.2.1], rfl⟩) dX4_isSo_142 (Nat.le_of_ble_eq_true rfl) (Nat.le_of_ble_eq_true rfl)
  ·
    refine x_tabIn Z 143 dX4_isSo_8 ⟨by omega, by omega⟩ (by omega) (by omega) (by rw [hs]; rfl) (by decide) ?_
    refine x_iload_n Z dX4_isSo_143 rfl rfl ?_
    refine x_callS Z okX4_isBlank q1152 q1153 dX4_isSo_144 (c_X4_isBlank h0 htr ⟨by omega, by omega⟩) ⟨Nat.le_of_ble_eq_true rfl, Nat.le_of_ble_eq_true rfl, Nat.le_of_ble_eq_true rfl, Nat.le_of_ble_eq_true rfl⟩ rfl rfl (Nat.le_of_ble_eq_true rfl) (fun v9 w9 hR => ?_)
    obtain ⟨o9, rfl, e9, hq⟩ := hR
    refine x_ew e9 ?_
    simp only [Option.toList_some, Option.toList_none, List.cons_append, List.nil_append]
    exact x_zret Z E (⟨by rw [hs, (soR' h1 h2).2.2.2.2.2.2.2.1, bq_d hq], rfl⟩) dX4_isSo_147 (Nat.le_of_ble_eq_true rfl) (Nat.le_of_ble_eq_true rfl)
  ·
    refine x_tabIn Z 148 dX4_isSo_8 ⟨by omega, by omega⟩ (by omega) (by omega) (by rw [hs]; rfl) (by decide) ?_
    refine x_iload_n Z dX4_isSo_148 rfl rfl ?_
    refine x_bipush Z dX4_isSo_149 (by decide +kernel) ?_
    refine x_icmp_ne Z 158 dX4_isSo_151 (by decide) ⟨by omega, by omega⟩ ⟨by omega, by omega⟩ (fun c151 => ?_) (fun c151 => ?_)
    ·
      refine x_ib false Z dX4_isSo_158 (by decide) ?_
      exact x_zret Z E (⟨by rw [hs, (soR' h1 h2).2.2.2.2.2.2.2.2.1]; first | (rw [decide_eq_true (by omega)]; done) | (rw [decide_eq_false (by omega)]; done), rfl⟩) dX4_isSo_159 (Nat.le_of_ble_eq_true rfl) (Nat.le_of_ble_eq_true rfl)
    ·
      refine x_ib true Z dX4_isSo_154 (by decide) ?_
      refine x_goto Z 159 dX4_isSo_155 (by decide) ?_
      exact x_zret Z E (⟨by rw [hs, (soR' h1 h2).2.2.2.2.2.2.2.2.1]; first | (rw [decide_eq_true (by omega)]; done) | (rw [decide_eq_false (by omega)]; done), rfl⟩) dX4_isSo_159 (Nat.le_of_ble_eq_true rfl) (Nat.le_of_ble_eq_true rfl)
  ·
    refine x_tabIn Z 160 dX4_isSo_8 ⟨by omega, by omega⟩ (by omega) (by omega) (by rw [hs]; rfl) (by decide) ?_
    refine x_iload_n Z dX4_isSo_160 rfl rfl ?_
    refine x_bipush Z dX4_isSo_161 (by decide +kernel) ?_
    refine x_icmp_ne Z 170 dX4_isSo_163 (by decide) ⟨by omega, by omega⟩ ⟨by omega, by omega⟩ (fun c163 => ?_) (fun c163 => ?_)
    ·
      refine x_ib false Z dX4_isSo_170 (by decide) ?_
      exact x_zret Z E (⟨by rw [hs, (soR' h1 h2).2.2.2.2.2.2.2.2.2.1]; first | (rw [decide_eq_true (by omega)]; done) | (rw [decide_eq_false (by omega)]; done), rfl⟩) dX4_isSo_171 (Nat.le_of_ble_eq_true rfl) (Nat.le_of_ble_eq_true rfl)
    ·
      refine x_ib true Z dX4_isSo_166 (by decide) ?_
      refine x_goto Z 171 dX4_isSo_167 (by decide) ?_
      exact x_zret Z E (⟨by rw [hs, (soR' h1 h2).2.2.2.2.2.2.2.2.2.1]; first | (rw [decide_eq_true (by omega)]; done) | (rw [decide_eq_false (by omega)]; done), rfl⟩) dX4_isSo_171 (Nat.le_of_ble_eq_true rfl) (Nat.le_of_ble_eq_true rfl)
  ·
    refine x_tabIn Z 172 dX4_isSo_8 ⟨by omega, by omega⟩ (by omega) (by omega) (by rw [hs]; rfl) (by decide) ?_
    refine x_iload_n Z dX4_isSo_172 rfl rfl ?_
    refine x_bipush Z dX4_isSo_173 (by decide +kernel) ?_
    refine x_icmp_eq Z 208 dX4_isSo_175 (by decide) ⟨by omega, by omega⟩ ⟨by omega, by omega⟩ (fun c175 => ?_) (fun c175 => ?_)
    ·
      refine x_ib true Z dX4_isSo_208 (by decide) ?_
      refine x_goto Z 213 dX4_isSo_209 (by decide) ?_
      exact x_zret Z E (⟨by rw [hs, (soR' h1 h2).2.2.2.2.2.2.2.2.2.2.1]; first | (rw [decide_eq_true (by omega)]; done) | (rw [decide_eq_false (by omega)]; done), rfl⟩) dX4_isSo_213 (Nat.le_of_ble_eq_true rfl) (Nat.le_of_ble_eq_true rfl)
    ·
      refine x_iload_n Z dX4_isSo_178 rfl rfl ?_
      refine x_bipush Z dX4_isSo_179 (by decide +kernel) ?_
      refine x_icmp_eq Z 208 dX4_isSo_181 (by decide) ⟨by omega, by omega⟩ ⟨by omega, by omega⟩ (fun c181 => ?_) (fun c181 => ?_)
      ·
        refine x_ib true Z dX4_isSo_208 (by decide) ?_
        refine x_goto Z 213 dX4_isSo_209 (by decide) ?_
        exact x_zret Z E (⟨by rw [hs, (soR' h1 h2).2.2.2.2.2.2.2.2.2.2.1]; first | (rw [decide_eq_true (by omega)]; done) | (rw [decide_eq_false (by omega)]; done), rfl⟩) dX4_isSo_213 (Nat.le_of_ble_eq_true rfl) (Nat.le_of_ble_eq_true rfl)
      ·
        refine x_iload_n Z dX4_isSo_184 rfl rfl ?_
        refine x_bipush Z dX4_isSo_185 (by decide +kernel) ?_
        refine x_icmp_eq Z 208 dX4_isSo_187 (by decide) ⟨by omega, by omega⟩ ⟨by omega, by omega⟩ (fun c187 => ?_) (fun c187 => ?_)
        ·
          refine x_ib true Z dX4_isSo_208 (by decide) ?_
          refine x_goto Z 213 dX4_isSo_209 (by decide) ?_
          exact x_zret Z E (⟨by rw [hs, (soR' h1 h2).2.2.2.2.2.2.2.2.2.2.1]; first | (rw [decide_eq_true (by omega)]; done) | (rw [decide_eq_false (by omega)]; done), rfl⟩) dX4_isSo_213 (Nat.le_of_ble_eq_true rfl) (Nat.le_of_ble_eq_true rfl)
        ·
          refine x_iload_n Z dX4_isSo_190 rfl rfl ?_
          refine x_bipush Z dX4_isSo_191 (by decide +kernel) ?_
          refine x_icmp_eq Z 208 dX4_isSo_193 (by decide) ⟨by omega, by omega⟩ ⟨by omega, by omega⟩ (fun c193 => ?_) (fun c193 => ?_)
          ·
            refine x_ib true Z dX4_isSo_208 (by decide) ?_
            refine x_goto Z 213 dX4_isSo_209 (by decide) ?_
            exact x_zret Z E (⟨by rw [hs, (soR' h1 h2).2.2.2.2.2.2.2.2.2.2.1]; first | (rw [decide_eq_true (by omega)]; done) | (rw [decide_eq_false (by omega)]; done), rfl⟩) dX4_isSo_213 (Nat.le_of_ble_eq_true rfl) (Nat.le_of_ble_eq_true rfl)
          ·
            refine x_iload_n Z dX4_isSo_196 rfl rfl ?_
            refine x_bipush Z dX4_isSo_197 (by decide +kernel) ?_
            refine x_icmp_eq Z 208 dX4_isSo_199 (by decide) ⟨by omega, by omega⟩ ⟨by omega, by omega⟩ (fun c199 => ?_) (fun c199 => ?_)
            ·
              refine x_ib true Z dX4_isSo_208 (by decide) ?_
              refine x_goto Z 213 dX4_isSo_209 (by decide) ?_
              exact x_zret Z E (⟨by rw [hs, (soR' h1 h2).2.2.2.2.2.2.2.2.2.2.1]; first | (rw [decide_eq_true (by omega)]; done) | (rw [decide_eq_false (by omega)]; done), rfl⟩) dX4_isSo_213 (Nat.le_of_ble_eq_true rfl) (Nat.le_of_ble_eq_true rfl)
            ·
              refine x_iload_n Z dX4_isSo_202 rfl rfl ?_
              refine x_bipush Z dX4_isSo_203 (by decide +kernel) ?_
              refine x_icmp_ne Z 212 dX4_isSo_205 (by decide) ⟨by omega, by omega⟩ ⟨by omega, by omega⟩ (fun c205 => ?_) (fun c205 => ?_)
              ·
                refine x_ib false Z dX4_isSo_212 (by decide) ?_
                exact x_zret Z E (⟨by rw [hs, (soR' h1 h2).2.2.2.2.2.2.2.2.2.2.1]; first | (rw [decide_eq_true (by omega)]; done) | (rw [decide_eq_false (by omega)]; done), rfl⟩) dX4_isSo_213 (Nat.le_of_ble_eq_true rfl) (Nat.le_of_ble_eq_true rfl)
              ·
                refine x_ib true Z dX4_isSo_208 (by decide) ?_
                refine x_goto Z 213 dX4_isSo_209 (by decide) ?_
                exact x_zret Z E (⟨by rw [hs, (soR' h1 h2).2.2.2.2.2.2.2.2.2.2.1]; first | (rw [decide_eq_true (by omega)]; done) | (rw [decide_eq_false (by omega)]; done), rfl⟩) dX4_isSo_213 (Nat.le_of_ble_eq_true rfl) (Nat.le_of_ble_eq_true rfl)
  ·
    refine x_tabIn Z 214 dX4_isSo_8 ⟨by omega, by omega⟩ (by omega) (by omega) (by rw [hs]; rfl) (by decide) ?_
    refine x_iload_n Z dX4_isSo_214 rfl rfl ?_
    refine x_callS Z okX4_isLetter q1149 q1150 dX4_isSo_215 (c_X4_isLetter h0 htr ⟨by omega, by omega⟩) ⟨Nat.le_of_ble_eq_true rfl, Nat.le_of_ble_eq_true rfl, Nat.le_of_ble_eq_true rfl, Nat.le_of_ble_eq_true rfl⟩ rfl rfl (Nat.le_of_ble_eq_true rfl) (fun v9 w9 hR => ?_)
    obtain ⟨o9, rfl, e9, hq⟩ := hR
    refine x_ew e9 ?_
    simp only [Option.toList_some, Option.toList_none, List.cons_append, List.nil_append]
    refine x_ifb_ne Z 233 dX4_isSo_218 (by decide) (fun c218 => ?_) (fun c218 => ?_)
    ·
      have f218 := bq_t hq c218
      refine x_ib true Z dX4_isSo_233 (by decide) ?_
      refine x_goto Z 238 dX4_isSo_234 (by decide) ?_
      exact x_zret Z E (⟨by rw [hs, (soR' h1 h2).2.2.2.2.2.2.2.2.2.2.2.1]; first | (rw [decide_eq_true (by omega)]; done) | (rw [decide_eq_false (by omega)]; done), rfl⟩) dX4_isSo_238 (Nat.le_of_ble_eq_true rfl) (Nat.le_of_ble_eq_true rfl)
    ·
      have f218 := bq_f hq c218
      refine x_iload_n Z dX4_isSo_221 rfl rfl ?_
      refine x_bipush Z dX4_isSo_222 (by decide +kernel) ?_
      refine x_icmp_eq Z 233 dX4_isSo_224 (by decide) ⟨by omega, by omega⟩ ⟨by omega, by omega⟩ (fun c224 => ?_) (fun c224 => ?_)
      ·
        refine x_ib true Z dX4_isSo_233 (by decide) ?_
        refine x_goto Z 238 dX4_isSo_234 (by decide) ?_
        exact x_zret Z E (⟨by rw [hs, (soR' h1 h2).2.2.2.2.2.2.2.2.2.2.2.1]; first | (rw [decide_eq_true (by omega)]; done) | (rw [decide_eq_false (by omega)]; done), rfl⟩) dX4_isSo_238 (Nat.le_of_ble_eq_true rfl) (Nat.le_of_ble_eq_true rfl)
      ·
        refine x_iload_n Z dX4_isSo_227 rfl rfl ?_
        refine x_bipush Z dX4_isSo_228 (by decide +kernel) ?_
        refine x_icmp_ne Z 237 dX4_isSo_230 (by decide) ⟨by omega, by omega⟩ ⟨by omega, by omega⟩ (fun c230 => ?_) (fun c230 => ?_)
        ·
          refine x_ib false Z dX4_isSo_237 (by decide) ?_
          exact x_zret Z E (⟨by rw [hs, (soR' h1 h2).2.2.2.2.2.2.2.2.2.2.2.1]; first | (rw [decide_eq_true (by omega)]; done) | (rw [decide_eq_false (by omega)]; done), rfl⟩) dX4_isSo_238 (Nat.le_of_ble_eq_true rfl) (Nat.le_of_ble_eq_true rfl)
        ·
          refine x_ib true Z dX4_isSo_233 (by decide) ?_
          refine x_goto Z 238 dX4_isSo_234 (by decide) ?_
          exact x_zret Z E (⟨by rw [hs, (soR' h1 h2).2.2.2.2.2.2.2.2.2.2.2.1]; first | (rw [decide_eq_true (by omega)]; done) | (rw [decide_eq_false (by omega)]; done), rfl⟩) dX4_isSo_238 (Nat.le_of_ble_eq_true rfl) (Nat.le_of_ble_eq_true rfl)
  ·
    refine x_tabIn Z 239 dX4_isSo_8 ⟨by omega, by omega⟩ (by omega) (by omega) (by rw [hs]; rfl) (by decide) ?_
    refine x_aload_n Z dX4_isSo_239 rfl rfl ?_
    refine x_iload_n Z dX4_isSo_240 rfl rfl ?_
    refine x_bipush Z dX4_isSo_241 (by decide +kernel) ?_
    refine x_callV (ci := 5) (C := RX4) (T := TX4) (N := 7) Z okX4_isSo q1145 q1147 q17 rfl dX4_isSo_243 (c_X4_isSo0 h0 htr hS (by omega) (by omega) (by omega) (by omega) (by omega)) hS.1 ⟨Nat.le_of_ble_eq_true rfl, Nat.le_of_ble_eq_true rfl, Nat.le_of_ble_eq_true rfl, Nat.le_of_ble_eq_true rfl⟩ rfl rfl (Nat.le_of_ble_eq_true rfl) (fun v9 w9 hR => ?_)
    obtain ⟨rfl, e9⟩ := hR
    refine x_ew e9 ?_
    simp only [Option.toList_some, Option.toList_none, List.cons_append, List.nil_append]
    refine x_ifb_ne Z 265 dX4_isSo_246 (by decide) (fun c246 => ?_) (fun c246 => ?_)
    ·
      refine x_ib true Z dX4_isSo_265 (by decide) ?_
      refine x_goto Z 270 dX4_isSo_266 (by decide) ?_
      exact x_zret Z E (⟨by rw [hs, (soR' h1 h2).2.2.2.2.2.2.2.2.2.2.2.2.1]; first | (rw [c246]; rfl) | (rw [c246, decide_eq_true c252]; rfl) | (rw [c246, decide_eq_false c252, c262]; rfl), rfl⟩) dX4_isSo_270 (Nat.le_of_ble_eq_true rfl) (Nat.le_of_ble_eq_true rfl)
    ·
      refine x_iload_n Z dX4_isSo_249 rfl rfl ?_
      refine x_bipush Z dX4_isSo_250 (by decide +kernel) ?_
      refine x_icmp_eq Z 265 dX4_isSo_252 (by decide) ⟨by omega, by omega⟩ ⟨by omega, by omega⟩ (fun c252 => ?_) (fun c252 => ?_)
      ·
        refine x_ib true Z dX4_isSo_265 (by decide) ?_
        refine x_goto Z 270 dX4_isSo_266 (by decide) ?_
        exact x_zret Z E (⟨by rw [hs, (soR' h1 h2).2.2.2.2.2.2.2.2.2.2.2.2.1]; first | (rw [c246]; rfl) | (rw [c246, decide_eq_true c252]; rfl) | (rw [c246, decide_eq_false c252, c262]; rfl), rfl⟩) dX4_isSo_270 (Nat.le_of_ble_eq_true rfl) (Nat.le_of_ble_eq_true rfl)
      ·
        refine x_aload_n Z dX4_isSo_255 rfl rfl ?_
        refine x_iload_n Z dX4_isSo_256 rfl rfl ?_
        refine x_bipush Z dX4_isSo_257 (by decide +kernel) ?_
        refine x_callV (ci := 5) (C := RX4) (T := TX4) (N := 7) Z okX4_isSo q1145 q1147 q17 rfl dX4_isSo_259 (c_X4_isSo0 h0 htr hS (by omega) (by omega) (by omega) (by omega) (by omega)) hS.1 ⟨Nat.le_of_ble_eq_true rfl, Nat.le_of_ble_eq_true rfl, Nat.le_of_ble_eq_true rfl, Nat.le_of_ble_eq_true rfl⟩ rfl rfl (Nat.le_of_ble_eq_true rfl) (fun v9 w9 hR => ?_)
        obtain ⟨rfl, e9⟩ := hR
        refine x_ew e9 ?_
        simp only [Option.toList_some, Option.toList_none, List.cons_append, List.nil_append]
        refine x_ifb_eq Z 269 dX4_isSo_262 (by decide) (fun c262 => ?_) (fun c262 => ?_)
        ·
          refine x_ib false Z dX4_isSo_269 (by decide) ?_
          exact x_zret Z E (⟨by rw [hs, (soR' h1 h2).2.2.2.2.2.2.2.2.2.2.2.2.1]; first | (rw [c246]; rfl) | (rw [c246, decide_eq_true c252]; rfl) | (rw [c246, decide_eq_false c252, c262]; rfl), rfl⟩) dX4_isSo_270 (Nat.le_of_ble_eq_true rfl) (Nat.le_of_ble_eq_true rfl)
        ·
          refine x_ib true Z dX4_isSo_265 (by decide) ?_
          refine x_goto Z 270 dX4_isSo_266 (by decide) ?_
          exact x_zret Z E (⟨by rw [hs, (soR' h1 h2).2.2.2.2.2.2.2.2.2.2.2.2.1]; first | (rw [c246]; rfl) | (rw [c246, decide_eq_true c252]; rfl) | (rw [c246, decide_eq_false c252, c262]; rfl), rfl⟩) dX4_isSo_270 (Nat.le_of_ble_eq_true rfl) (Nat.le_of_ble_eq_true rfl)
abbrev rmc_X4_areAll : Room := { frames := 3, cells := 0, slots := 0, locals := 66 }
set_option maxRecDepth 100000 in
theorem c_X4_areAll {l : Launch} {s0 : State} {G : gK} {w : wd} (h0 : gS0 s0) (htr : l.stackTraces = false) {R : rA} {S : rM} {t : Int} {f e q : Int} (hS : rS G w R S) (t0 : 0 ≤ t) (t3 : t < 3) (h1 : 0 ≤ f) (h2 : f ≤ e) (h3 : e ≤ 30) (h4 : 0 ≤ q) (h5 : q ≤ 13) : gM l s0 G yX4_areAll [Cond.code yX4_areAll cX4_areAll 6 (some .boolean)] rmc_X4_areAll [rv R.1, iv t, iv f, iv e, iv q] w (fun v w' => ∃ o : Bool, v = some (iv (b2 o)) ∧ w' = w ∧ (o = true ↔ al (S.2.2.1 t) q f e)) (noX) := by
  refine g_of h0 htr (by decide +kernel) (Nat.le_of_ble_eq_true rfl) ?_
  intro b Z0 E
  have Z : gAm b l s0 G cX4_areAll RX4 6 rmc_X4_areAll := Z0
  refine x_el (L' := [(0, rv R.1), (1, iv t), (2, iv f), (3, iv e), (4, iv q)]) rfl ?_
  obtain ⟨hr1, hr2, ⟨f3, hr3, hf3⟩, hr4, hr5, hr6⟩ := id hS
  obtain ⟨hrt, hn0, hn30, hC⟩ := hr5 t (by omega) (by omega)
  refine x_iload_n Z dX4_areAll_0 rfl rfl ?_
  refine x_istore (L' := [(5, _), (0, _), (1, _), (2, _), (3, _), (4, _)]) Z dX4_areAll_1 (Nat.le_of_ble_eq_true rfl) rfl ?_
  have loop3 : ∀ (fu : Nat) (i : Int), e - i < (fu : Int) → (f ≤ i ∧ i ≤ e ∧ ∀ j, f ≤ j → j < i → so ((S.2.2.1 t) j) q = true) → gX b s0 G (0) (0) 3 [(5, iv i), (0, rv R.1), (1, iv t), (2, iv f), (3, iv e), (4, iv q)] [] (w) := by
    intro fu; induction fu with
    | zero => intro i hm hv; exact absurd hm (by omega)
    | succ fu ih3 =>
      intro i hm hv
      obtain ⟨hi0, hin, hif⟩ := hv
      have hCi := hC i
      refine x_iload Z dX4_areAll_3 rfl ?_
      refine x_iload_n Z dX4_areAll_5 rfl rfl ?_
      refine x_icmp_ge Z 35 dX4_areAll_6 (by decide) ⟨by omega, by omega⟩ ⟨by omega, by omega⟩ (fun c6 => ?_) (fun c6 => ?_)
      ·
        refine x_ib true Z dX4_areAll_35 (by decide) ?_
        exact x_zret Z E (⟨_, rfl, rfl, ⟨fun _ j j0 j1 => hif j j0 (by omega), fun _ => rfl⟩⟩) dX4_areAll_36 (Nat.le_of_ble_eq_true rfl) (Nat.le_of_ble_eq_true rfl)
      ·
        refine x_aload_n Z dX4_areAll_9 rfl rfl ?_
        refine x_aload_n Z dX4_areAll_10 rfl rfl ?_
        refine x_getf (ci := 5) (j := 1) (C := RX4) (T := TX4) (N := 7) Z inX4g rfl (by decide) q1042 rfl dX4_areAll_11 (by assumption) rfl ?_
        refine x_iload_n Z dX4_areAll_14 rfl rfl ?_
        refine x_aaldR Z dX4_areAll_15 hr3 (by decide) (by omega) (by omega) (hf3 t (by omega) (by omega)) ?_
        refine x_iload Z dX4_areAll_16 rfl ?_
        refine x_iald Z dX4_areAll_18 (by assumption) (by omega) (by omega) (by omega) ?_
        refine x_iload Z dX4_areAll_19 rfl ?_
        refine x_callV (ci := 5) (C := RX4) (T := TX4) (N := 7) Z okX4_isSo q1145 q1147 q17 rfl dX4_areAll_21 (c_X4_isSo h0 htr hS (by omega) (by omega) (by omega) (by omega)) hS.1 ⟨Nat.le_of_ble_eq_true rfl, Nat.le_of_ble_eq_true rfl, Nat.le_of_ble_eq_true rfl, Nat.le_of_ble_eq_true rfl⟩ rfl rfl (Nat.le_of_ble_eq_true rfl) (fun v9 w9 hR => ?_)
        obtain ⟨rfl, e9⟩ := hR
        refine x_ew e9 ?_
        simp only [Option.toList_some, Option.toList_none, List.cons_append, List.nil_append]
        refine x_ifb_ne Z 29 dX4_areAll_24 (by decide) (fun c24 => ?_) (fun c24 => ?_)
        ·
          refine x_iinc (L' := [(5, _), (0, _), (1, _), (2, _), (3, _), (4, _)]) Z dX4_areAll_29 rfl (Nat.le_of_ble_eq_true rfl) rfl ?_
          refine x_goto Z 3 dX4_areAll_32 (by decide) ?_
          exact ih3 (i + 1) (by omega) ⟨by omega, by omega, fun j j0 j1 => by
            rcases (by omega : j < i ∨ j = i) with hj | hj
            · exact hif j j0 hj
            · rw [hj]; exact c24⟩
        ·
          refine x_ib false Z dX4_areAll_27 (by decide) ?_
          exact x_zret Z E (⟨_, rfl, rfl, ⟨fun h => absurd h (by decide), fun h => by { have h9 := h i (by omega) (by omega); rw [c24] at h9; cases h9 }⟩⟩) dX4_areAll_28 (Nat.le_of_ble_eq_true rfl) (Nat.le_of_ble_eq_true rfl)
  exact loop3 40 f (by omega) ⟨by omega, by omega, fun j j0 j1 => by omega⟩
abbrev rmc_X4_areSum : Room := { frames := 0, cells := 0, slots := 0, locals := 0 }
set_option maxRecDepth 100000 in
theorem c_X4_areSum {l : Launch} {s0 : State} {G : gK} {w : wd} (h0 : gS0 s0) (htr : l.stackTraces = false) {R : rA} {S : rM} {t : Int} {f e : Int} (hS : rS G w R S) (t0 : 0 ≤ t) (t3 : t < 3) (h1 : 0 ≤ f) (h2 : f ≤ e) (h3 : e ≤ 30) : gM l s0 G yX4_areSum [Cond.code yX4_areSum cX4_areSum 5 (some .boolean)] rmc_X4_areSum [rv R.1, iv t, iv f, iv e] w (fun v w' => ∃ o : Bool, v = some (iv (b2 o)) ∧ w' = w ∧ (o = true ↔ al (S.2.2.1 t) 14 f e)) (noX) := by
  refine g_of h0 htr (by decide +kernel) (Nat.le_of_ble_eq_true rfl) ?_
  intro b Z0 E
  have Z : gAm b l s0 G cX4_areSum RX4 5 rmc_X4_areSum := Z0
  refine x_el (L' := [(0, rv R.1), (1, iv t), (2, iv f), (3, iv e)]) rfl ?_
  obtain ⟨hr1, hr2, ⟨f3, hr3, hf3⟩, hr4, hr5, hr6⟩ := id hS
  obtain ⟨hrt, hn0, hn30, hC⟩ := hr5 t (by omega) (by omega)
  refine x_iload_n Z dX4_areSum_0 rfl rfl ?_
  refine x_istore (L' := [(4, _), (0, _), (1, _), (2, _), (3, _)]) Z dX4_areSum_1 (Nat.le_of_ble_eq_true rfl) rfl ?_
  have loop3 : ∀ (fu : Nat) (i : Int), e - i < (fu : Int) → (f ≤ i ∧ i ≤ e ∧ ∀ j, f ≤ j → j < i → so ((S.2.2.1 t) j) 14 = true) → gX b s0 G (0) (0) 3 [(4, iv i), (0, rv R.1), (1, iv t), (2, iv f), (3, iv e)] [] (w) := by
    intro fu; induction fu with
    | zero => intro i hm hv; exact absurd hm (by omega)
    | succ fu ih3 =>
      intro i hm hv
      obtain ⟨hi0, hin, hif⟩ := hv
      have hCi := hC i
      have hki := kin_in ((S.2.2.1 t) i)
      have hsg := (so_sg (hC i).1 (hC i).2).2.2.2.1
      refine x_iload Z dX4_areSum_3 rfl ?_
      refine x_iload_n Z dX4_areSum_5 rfl rfl ?_
      refine x_icmp_ge Z 36 dX4_areSum_6 (by decide) ⟨by omega, by omega⟩ ⟨by omega, by omega⟩ (fun c6 => ?_) (fun c6 => ?_)
      ·
        refine x_ib true Z dX4_areSum_36 (by decide) ?_
        exact x_zret Z E (⟨_, rfl, rfl, ⟨fun _ j j0 j1 => hif j j0 (by omega), fun _ => rfl⟩⟩) dX4_areSum_37 (Nat.le_of_ble_eq_true rfl) (Nat.le_of_ble_eq_true rfl)
      ·
        refine x_aload_n Z dX4_areSum_9 rfl rfl ?_
        refine x_getf (ci := 5) (j := 0) (C := RX4) (T := TX4) (N := 7) Z inX4g rfl (by decide) q1041 rfl dX4_areSum_10 (by assumption) rfl ?_
        refine x_aload_n Z dX4_areSum_13 rfl rfl ?_
        refine x_getf (ci := 5) (j := 1) (C := RX4) (T := TX4) (N := 7) Z inX4g rfl (by decide) q1042 rfl dX4_areSum_14 (by assumption) rfl ?_
        refine x_iload_n Z dX4_areSum_17 rfl rfl ?_
        refine x_aaldR Z dX4_areSum_18 hr3 (by decide) (by omega) (by omega) (hf3 t (by omega) (by omega)) ?_
        refine x_iload Z dX4_areSum_19 rfl ?_
        refine x_iald Z dX4_areSum_21 (by assumption) (by omega) (by omega) (by omega) ?_
        refine x_iald Z dX4_areSum_22 (by assumption) (by omega) (by omega) (by omega) ?_
        refine x_bipush Z dX4_areSum_23 (by decide +kernel) ?_
        refine x_icmp_eq Z 30 dX4_areSum_25 (by decide) ⟨by omega, by omega⟩ ⟨by omega, by omega⟩ (fun c25 => ?_) (fun c25 => ?_)
        ·
          refine x_iinc (L' := [(4, _), (0, _), (1, _), (2, _), (3, _)]) Z dX4_areSum_30 rfl (Nat.le_of_ble_eq_true rfl) rfl ?_
          refine x_goto Z 3 dX4_areSum_33 (by decide) ?_
          exact ih3 (i + 1) (by omega) ⟨by omega, by omega, fun j j0 j1 => by
            rcases (by omega : j < i ∨ j = i) with hj | hj
            · exact hif j j0 hj
            · rw [hj, hsg, decide_eq_true c25]⟩
        ·
          refine x_ib false Z dX4_areSum_28 (by decide) ?_
          exact x_zret Z E (⟨_, rfl, rfl, ⟨fun h => absurd h (by decide), fun h => by { have h9 := h i (by omega) (by omega); rw [hsg, decide_eq_false c25] at h9; cases h9 }⟩⟩) dX4_areSum_29 (Nat.le_of_ble_eq_true rfl) (Nat.le_of_ble_eq_true rfl)
  exact loop3 40 f (by omega) ⟨by omega, by omega, fun j j0 j1 => by omega⟩
abbrev rmc_X4_sortOf : Room := { frames := 4, cells := 0, slots := 0, locals := 91 }
set_option maxRecDepth 100000 in
theorem c_X4_sortOf {l : Launch} {s0 : State} {G : gK} {w : wd} (h0 : gS0 s0) (htr : l.stackTraces = false) {R : rA} {S : rM} {t : Int} {f e : Int} (hS : rS G w R S) (t0 : 0 ≤ t) (t3 : t < 3) (h1 : 0 ≤ f) (h2 : f < e) (h3 : e ≤ S.2.1 t) : gM l s0 G yX4_sortOf [Cond.code yX4_sortOf cX4_sortOf 4 (some .int)] rmc_X4_sortOf [rv R.1, iv t, iv f, iv e] w (fun v w' => v = some (iv (srt (S.2.1 t) (S.2.2.1 t) f e)) ∧ w' = w) (noX) := by
  refine g_of h0 htr (by decide +kernel) (Nat.le_of_ble_eq_true rfl) ?_
  intro b Z0 E
  have Z : gAm b l s0 G cX4_sortOf RX4 4 rmc_X4_sortOf := Z0
  refine x_el (L' := [(0, rv R.1), (1, iv t), (2, iv f), (3, iv e)]) rfl ?_
  obtain ⟨hr1, hr2, ⟨f3, hr3, hf3⟩, hr4, hr5, hr6⟩ := id hS
  obtain ⟨hrt, hn0, hn30, hC⟩ := hr5 t (by omega) (by omega)
  have hCf := hC f
  have join31 : ∀ (_ : Unit), (¬ (so ((S.2.2.1 t) f) 11 = true ∧ al (S.2.2.1 t) 12 f e)) → gX b s0 G (0) (0) 31 [(0, rv R.1), (1, iv t), (2, iv f), (3, iv e)] [] (w) := by
    intro _ hv
    refine x_aload_n Z dX4_sortOf_31 rfl rfl ?_
    refine x_iload_n Z dX4_sortOf_32 rfl rfl ?_
    refine x_iload_n Z dX4_sortOf_33 rfl rfl ?_
    refine x_iload_n Z dX4_sortOf_34 rfl rfl ?_
    refine x_iconst Z dX4_sortOf_35 ?_
    refine x_callV (ci := 5) (C := RX4) (T := TX4) (N := 7) Z okX4_areAll q1183 q1185 q22 rfl dX4_sortOf_36 (c_X4_areAll h0 htr hS (by omega) (by omega) (by omega) (by omega) (by omega) (by omega) (by omega)) hS.1 ⟨Nat.le_of_ble_eq_true rfl, Nat.le_of_ble_eq_true rfl, Nat.le_of_ble_eq_true rfl, Nat.le_of_ble_eq_true rfl⟩ rfl rfl (Nat.le_of_ble_eq_true rfl) (fun v9 w9 hR => ?_)
    obtain ⟨o, rfl, e9, hq⟩ := hR
    refine x_ew e9 ?_
    simp only [Option.toList_some, Option.toList_none, List.cons_append, List.nil_append]
    refine x_ifb_eq Z 44 dX4_sortOf_39 (by decide) (fun c39 => ?_) (fun c39 => ?_)
    ·
      have f39 := bq_f hq c39
      refine x_aload_n Z dX4_sortOf_44 rfl rfl ?_
      refine x_iload_n Z dX4_sortOf_45 rfl rfl ?_
      refine x_iload_n Z dX4_sortOf_46 rfl rfl ?_
      refine x_iload_n Z dX4_sortOf_47 rfl rfl ?_
      refine x_bipush Z dX4_sortOf_48 (by decide +kernel) ?_
      refine x_callV (ci := 5) (C := RX4) (T := TX4) (N := 7) Z okX4_areAll q1183 q1185 q22 rfl dX4_sortOf_50 (c_X4_areAll h0 htr hS (by omega) (by omega) (by omega) (by omega) (by omega) (by omega) (by omega)) hS.1 ⟨Nat.le_of_ble_eq_true rfl, Nat.le_of_ble_eq_true rfl, Nat.le_of_ble_eq_true rfl, Nat.le_of_ble_eq_true rfl⟩ rfl rfl (Nat.le_of_ble_eq_true rfl) (fun v9 w9 hR => ?_)
      obtain ⟨o, rfl, e9, hq⟩ := hR
      refine x_ew e9 ?_
      simp only [Option.toList_some, Option.toList_none, List.cons_append, List.nil_append]
      refine x_ifb_eq Z 58 dX4_sortOf_53 (by decide) (fun c53 => ?_) (fun c53 => ?_)
      ·
        have f53 := bq_f hq c53
        refine x_aload_n Z dX4_sortOf_58 rfl rfl ?_
        refine x_iload_n Z dX4_sortOf_59 rfl rfl ?_
        refine x_iload_n Z dX4_sortOf_60 rfl rfl ?_
        refine x_iload_n Z dX4_sortOf_61 rfl rfl ?_
        refine x_callV (ci := 5) (C := RX4) (T := TX4) (N := 7) Z okX4_areSum q1187 q1189 q23 rfl dX4_sortOf_62 (c_X4_areSum h0 htr hS (by omega) (by omega) (by omega) (by omega) (by omega)) hS.1 ⟨Nat.le_of_ble_eq_true rfl, Nat.le_of_ble_eq_true rfl, Nat.le_of_ble_eq_true rfl, Nat.le_of_ble_eq_true rfl⟩ rfl rfl (Nat.le_of_ble_eq_true rfl) (fun v9 w9 hR => ?_)
        obtain ⟨o, rfl, e9, hq⟩ := hR
        refine x_ew e9 ?_
        simp only [Option.toList_some, Option.toList_none, List.cons_append, List.nil_append]
        refine x_ifb_eq Z 72 dX4_sortOf_65 (by decide) (fun c65 => ?_) (fun c65 => ?_)
        ·
          have f65 := bq_f hq c65
          refine x_iload_n Z dX4_sortOf_72 rfl rfl ?_
          refine x_iload_n Z dX4_sortOf_73 rfl rfl ?_
          refine x_iconst Z dX4_sortOf_74 ?_
          refine x_iadd Z dX4_sortOf_75 ?_
          refine x_icmp_ne Z 83 dX4_sortOf_76 (by decide) ⟨by omega, by omega⟩ ⟨by omega, by omega⟩ (fun c76 => ?_) (fun c76 => ?_)
          ·
            refine x_iconst Z dX4_sortOf_83 ?_
            exact x_iret Z E (⟨by first | (rw [srt_3 (by omega) (by omega) hCf f65]; done) | (rw [srt_4 (by omega) (by omega) hCf hv f39 f53 f65]; done) | (rw [srt_n (by omega) (by omega) (by omega) hC hv f39 f53 f65]; done), rfl⟩) dX4_sortOf_84 (Nat.le_of_ble_eq_true rfl) (Nat.le_of_ble_eq_true rfl)
          ·
            refine x_iconst Z dX4_sortOf_79 ?_
            refine x_goto Z 84 dX4_sortOf_80 (by decide) ?_
            exact x_iret Z E (⟨by first | (rw [srt_3 (by omega) (by omega) hCf f65]; done) | (rw [srt_4 (by omega) (by omega) hCf hv f39 f53 f65]; done) | (rw [srt_n (by omega) (by omega) (by omega) hC hv f39 f53 f65]; done), rfl⟩) dX4_sortOf_84 (Nat.le_of_ble_eq_true rfl) (Nat.le_of_ble_eq_true rfl)
        ·
          have f65 := bq_t hq c65
          refine x_iconst Z dX4_sortOf_68 ?_
          refine x_goto Z 84 dX4_sortOf_69 (by decide) ?_
          exact x_iret Z E (⟨by first | (rw [srt_3 (by omega) (by omega) hCf f65]; done) | (rw [srt_4 (by omega) (by omega) hCf hv f39 f53 f65]; done) | (rw [srt_n (by omega) (by omega) (by omega) hC hv f39 f53 f65]; done), rfl⟩) dX4_sortOf_84 (Nat.le_of_ble_eq_true rfl) (Nat.le_of_ble_eq_true rfl)
      ·
        have f53 := bq_t hq c53
        refine x_iconst Z dX4_sortOf_56 ?_
        exact x_iret Z E (⟨by rw [srt_2 (by omega) (by omega) hCf f53], rfl⟩) dX4_sortOf_57 (Nat.le_of_ble_eq_true rfl) (Nat.le_of_ble_eq_true rfl)
    ·
      have f39 := bq_t hq c39
      refine x_iconst Z dX4_sortOf_42 ?_
      exact x_iret Z E (⟨by rw [srt_1 (by omega) (by omega) hCf f39], rfl⟩) dX4_sortOf_43 (Nat.le_of_ble_eq_true rfl) (Nat.le_of_ble_eq_true rfl)
  refine x_aload_n Z dX4_sortOf_0 rfl rfl ?_
  refine x_aload_n Z dX4_sortOf_1 rfl rfl ?_
  refine x_getf (ci := 5) (j := 1) (C := RX4) (T := TX4) (N := 7) Z inX4g rfl (by decide) q1042 rfl dX4_sortOf_2 (by assumption) rfl ?_
  refine x_iload_n Z dX4_sortOf_5 rfl rfl ?_
  refine x_aaldR Z dX4_sortOf_6 hr3 (by decide) (by omega) (by omega) (hf3 t (by omega) (by omega)) ?_
  refine x_iload_n Z dX4_sortOf_7 rfl rfl ?_
  refine x_iald Z dX4_sortOf_8 (by assumption) (by omega) (by omega) (by omega) ?_
  refine x_bipush Z dX4_sortOf_9 (by decide +kernel) ?_
  refine x_callV (ci := 5) (C := RX4) (T := TX4) (N := 7) Z okX4_isSo q1145 q1147 q17 rfl dX4_sortOf_11 (c_X4_isSo h0 htr hS (by omega) (by omega) (by omega) (by omega)) hS.1 ⟨Nat.le_of_ble_eq_true rfl, Nat.le_of_ble_eq_true rfl, Nat.le_of_ble_eq_true rfl, Nat.le_of_ble_eq_true rfl⟩ rfl rfl (Nat.le_of_ble_eq_true rfl) (fun v9 w9 hR => ?_)
  obtain ⟨rfl, e9⟩ := hR
  refine x_ew e9 ?_
  simp only [Option.toList_some, Option.toList_none, List.cons_append, List.nil_append]
  refine x_ifb_eq Z 31 dX4_sortOf_14 (by decide) (fun c14 => ?_) (fun c14 => ?_)
  ·
    exact join31 () (by first | exact fun h => f26 h.2 | exact fun h => by { rw [c14] at h; cases h.1 })
  ·
    refine x_aload_n Z dX4_sortOf_17 rfl rfl ?_
    refine x_iload_n Z dX4_sortOf_18 rfl rfl ?_
    refine x_iload_n Z dX4_sortOf_19 rfl rfl ?_
    refine x_iload_n Z dX4_sortOf_20 rfl rfl ?_
    refine x_bipush Z dX4_sortOf_21 (by decide +kernel) ?_
    refine x_callV (ci := 5) (C := RX4) (T := TX4) (N := 7) Z okX4_areAll q1183 q1185 q22 rfl dX4_sortOf_23 (c_X4_areAll h0 htr hS (by omega) (by omega) (by omega) (by omega) (by omega) (by omega) (by omega)) hS.1 ⟨Nat.le_of_ble_eq_true rfl, Nat.le_of_ble_eq_true rfl, Nat.le_of_ble_eq_true rfl, Nat.le_of_ble_eq_true rfl⟩ rfl rfl (Nat.le_of_ble_eq_true rfl) (fun v9 w9 hR => ?_)
    obtain ⟨o, rfl, e9, hq⟩ := hR
    refine x_ew e9 ?_
    simp only [Option.toList_some, Option.toList_none, List.cons_append, List.nil_append]
    refine x_ifb_eq Z 31 dX4_sortOf_26 (by decide) (fun c26 => ?_) (fun c26 => ?_)
    ·
      have f26 := bq_f hq c26
      exact join31 () (by first | exact fun h => f26 h.2 | exact fun h => by { rw [c14] at h; cases h.1 })
    ·
      have f26 := bq_t hq c26
      refine x_iconst Z dX4_sortOf_29 ?_
      exact x_iret Z E (⟨by rw [srt_0 (by omega) (by omega) c14 f26], rfl⟩) dX4_sortOf_30 (Nat.le_of_ble_eq_true rfl) (Nat.le_of_ble_eq_true rfl)
abbrev rmc_X4_longestOf : Room := { frames := 5, cells := 0, slots := 0, locals := 114 }
set_option maxRecDepth 100000 in
theorem c_X4_longestOf {l : Launch} {s0 : State} {G : gK} {w : wd} (h0 : gS0 s0) (htr : l.stackTraces = false) {R : rA} {S : rM} {t : Int} {p : Int} (hS : rS G w R S) (t0 : 0 ≤ t) (t3 : t < 3) (h1 : 0 ≤ p) (h2 : p < S.2.1 t) : gM l s0 G yX4_longestOf [Cond.code yX4_longestOf cX4_longestOf 4 (some .int)] rmc_X4_longestOf [rv R.1, iv t, iv p] w (fun v w' => v = some (iv (lon (S.2.1 t) (S.2.2.1 t) p)) ∧ w' = w) (noX) := by
  refine g_of h0 htr (by decide +kernel) (Nat.le_of_ble_eq_true rfl) ?_
  intro b Z0 E
  have Z : gAm b l s0 G cX4_longestOf RX4 4 rmc_X4_longestOf := Z0
  refine x_el (L' := [(0, rv R.1), (1, iv t), (2, iv p)]) rfl ?_
  obtain ⟨hr1, hr2, ⟨f3, hr3, hf3⟩, hr4, hr5, hr6⟩ := id hS
  obtain ⟨hrt, hn0, hn30, hC⟩ := hr5 t (by omega) (by omega)
  have hlo := lon_in (n := (S.2.1 t)) (C := (S.2.2.1 t)) (p := p) (by omega)
  refine x_aload_n Z dX4_longestOf_0 rfl rfl ?_
  refine x_getf (ci := 5) (j := 2) (C := RX4) (T := TX4) (N := 7) Z inX4g rfl (by decide) q1043 rfl dX4_longestOf_1 (by assumption) rfl ?_
  refine x_iload_n Z dX4_longestOf_4 rfl rfl ?_
  refine x_iald Z dX4_longestOf_5 (by assumption) (by omega) (by omega) (by omega) ?_
  refine x_istore_n (L' := [(3, _), (0, _), (1, _), (2, _)]) Z dX4_longestOf_6 rfl (Nat.le_of_ble_eq_true rfl) rfl ?_
  have loop7 : ∀ (fu : Nat) (e : Int), e < (fu : Int) → (p + lon (S.2.1 t) (S.2.2.1 t) p ≤ e ∧ e ≤ (S.2.1 t)) → gX b s0 G (0) (0) 7 [(3, iv e), (0, rv R.1), (1, iv t), (2, iv p)] [] (w) := by
    intro fu; induction fu with
    | zero => intro e hm hv; exact absurd hm (by omega)
    | succ fu ih7 =>
      intro e hm hv
      obtain ⟨hi0, hin⟩ := hv
      refine x_aload_n Z dX4_longestOf_7 rfl rfl ?_
      refine x_iload_n Z dX4_longestOf_8 rfl rfl ?_
      refine x_iload_n Z dX4_longestOf_9 rfl rfl ?_
      refine x_iload_n Z dX4_longestOf_10 rfl rfl ?_
      refine x_callV (ci := 5) (C := RX4) (T := TX4) (N := 7) Z okX4_sortOf q1179 q1181 q21 rfl dX4_longestOf_11 (c_X4_sortOf h0 htr hS (by omega) (by omega) (by omega) (by omega) (by omega)) hS.1 ⟨Nat.le_of_ble_eq_true rfl, Nat.le_of_ble_eq_true rfl, Nat.le_of_ble_eq_true rfl, Nat.le_of_ble_eq_true rfl⟩ rfl rfl (Nat.le_of_ble_eq_true rfl) (fun v9 w9 hR => ?_)
      obtain ⟨rfl, e9⟩ := hR
      refine x_ew e9 ?_
      simp only [Option.toList_some, Option.toList_none, List.cons_append, List.nil_append]
      have hsi := srt_in (n := (S.2.1 t)) (C := (S.2.2.1 t)) (f := p) (e := e) (by omega) (by omega)
      have hsp := srt_p (n := (S.2.1 t)) (C := (S.2.2.1 t)) (f := p) (e := e) (by omega) (by omega)
      refine x_if_ge Z 23 dX4_longestOf_14 (by decide) ⟨by omega, by omega⟩ (fun c14 => ?_) (fun c14 => ?_)
      ·
        refine x_iload_n Z dX4_longestOf_23 rfl rfl ?_
        refine x_iload_n Z dX4_longestOf_24 rfl rfl ?_
        refine x_isub Z dX4_longestOf_25 ?_
        exact x_iret Z E (⟨by rw [show lon (S.2.1 t) (S.2.2.1 t) p = e - p by omega], rfl⟩) dX4_longestOf_26 (Nat.le_of_ble_eq_true rfl) (Nat.le_of_ble_eq_true rfl)
      ·
        refine x_iinc (L' := [(3, _), (0, _), (1, _), (2, _)]) Z dX4_longestOf_17 rfl (Nat.le_of_ble_eq_true rfl) rfl ?_
        refine x_goto Z 7 dX4_longestOf_20 (by decide) ?_
        exact ih7 (e + -1) (by omega) ⟨by omega, by omega⟩
  exact loop7 40 (S.2.1 t) (by omega) ⟨by omega, by omega⟩
