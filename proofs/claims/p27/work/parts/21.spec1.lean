/-! spec1: walks, by program -/
abbrev rmc_X2_isIn : Room := { frames := 0, cells := 0, slots := 0, locals := 0 }
set_option maxRecDepth 100000 in
theorem c_X2_isIn {l : Launch} {s0 : State} {G : gK} {w : wd} (h0 : gS0 s0) (htr : l.stackTraces = false) {m c : Int}  : gM l s0 G yX2_isIn [Cond.code yX2_isIn cX2_isIn 2 (some .boolean)] rmc_X2_isIn [iv m, iv c] w (fun v w' => v = some (iv (b2 (inB m c))) ∧ w' = w) (noX) := by
  refine g_of h0 htr (by decide +kernel) (Nat.le_of_ble_eq_true rfl) ?_
  intro b Z0 E
  have Z : gAm b l s0 G cX2_isIn RX2 2 rmc_X2_isIn := Z0
  refine x_el (L' := [(0, iv m), (1, iv c)]) rfl ?_
  refine x_iload_n Z dX2_isIn_0 rfl rfl ?_
  refine x_iload_n Z dX2_isIn_1 rfl rfl ?_
  refine x_ishr Z dX2_isIn_2 ?_
  refine x_iconst Z dX2_isIn_3 ?_
  refine x_iand Z dX2_isIn_4 ?_
  refine x_iconst Z dX2_isIn_5 ?_
  obtain ⟨hb1, hb2⟩ := bAnd1_in (bShr m c)
  refine x_icmp_ne Z 13 dX2_isIn_6 (by decide) ⟨by omega, by omega⟩ ⟨by omega, by omega⟩ (fun c6 => ?_) (fun c6 => ?_)
  ·
    refine x_ib false Z dX2_isIn_13 (by decide) ?_
    exact x_zret Z E (⟨by first | (rw [show inB m c = true from decide_eq_true c6]; done) | (rw [show inB m c = false from decide_eq_false c6]; done), rfl⟩) dX2_isIn_14 (Nat.le_of_ble_eq_true rfl) (Nat.le_of_ble_eq_true rfl)
  ·
    refine x_ib true Z dX2_isIn_9 (by decide) ?_
    refine x_goto Z 14 dX2_isIn_10 (by decide) ?_
    exact x_zret Z E (⟨by first | (rw [show inB m c = true from decide_eq_true c6]; done) | (rw [show inB m c = false from decide_eq_false c6]; done), rfl⟩) dX2_isIn_14 (Nat.le_of_ble_eq_true rfl) (Nat.le_of_ble_eq_true rfl)
abbrev rmc_X2_cutsOf : Room := { frames := 0, cells := 0, slots := 0, locals := 0 }
set_option maxRecDepth 100000 in
theorem c_X2_cutsOf {l : Launch} {s0 : State} {G : gK} {w : wd} (h0 : gS0 s0) (htr : l.stackTraces = false) {m : Int}  : gM l s0 G yX2_cutsOf [Cond.code yX2_cutsOf cX2_cutsOf 1 (some .int)] rmc_X2_cutsOf [iv m] w (fun v w' => v = some (iv (bAnd m (-2))) ∧ w' = w) (noX) := by
  refine g_of h0 htr (by decide +kernel) (Nat.le_of_ble_eq_true rfl) ?_
  intro b Z0 E
  have Z : gAm b l s0 G cX2_cutsOf RX2 1 rmc_X2_cutsOf := Z0
  refine x_el (L' := [(0, iv m)]) rfl ?_
  refine x_iload_n Z dX2_cutsOf_0 rfl rfl ?_
  refine x_bipush Z dX2_cutsOf_1 (by decide +kernel) ?_
  refine x_iand Z dX2_cutsOf_3 ?_
  exact x_iret Z E (⟨rfl, rfl⟩) dX2_cutsOf_4 (Nat.le_of_ble_eq_true rfl) (Nat.le_of_ble_eq_true rfl)
abbrev rmc_X2_mixed : Room := { frames := 0, cells := 0, slots := 0, locals := 0 }
set_option maxRecDepth 100000 in
theorem c_X2_mixed {l : Launch} {s0 : State} {G : gK} {w : wd} (h0 : gS0 s0) (htr : l.stackTraces = false) {x : Int64} {v : Int32}  : gM l s0 G yX2_mixed [Cond.code yX2_mixed cX2_mixed 3 (some .long)] rmc_X2_mixed [.long x, .int v] w (fun v9 w' => v9 = some (.long (x * 31 + v.toInt64)) ∧ w' = w) (noX) := by
  refine g_of h0 htr (by decide +kernel) (Nat.le_of_ble_eq_true rfl) ?_
  intro b Z0 E
  have Z : gAm b l s0 G cX2_mixed RX2 3 rmc_X2_mixed := Z0
  refine x_el (L' := [(0, .long x), (2, .int v)]) rfl ?_
  refine x_lload_n Z dX2_mixed_0 rfl rfl ?_
  refine x_ldc2 Z q199 dX2_mixed_1 ?_
  refine x_lmul Z dX2_mixed_4 ?_
  refine x_iload_n Z dX2_mixed_5 rfl rfl ?_
  refine x_i2l Z dX2_mixed_6 ?_
  refine x_ladd Z dX2_mixed_7 ?_
  exact x_lret Z E (⟨rfl, rfl⟩) dX2_mixed_8 (Nat.le_of_ble_eq_true rfl) (Nat.le_of_ble_eq_true rfl)
abbrev rmc_X0_isBlank : Room := { frames := 0, cells := 0, slots := 0, locals := 0 }
set_option maxRecDepth 100000 in
theorem c_X0_isBlank {l : Launch} {s0 : State} {G : gK} {w : wd} (h0 : gS0 s0) (htr : l.stackTraces = false) {c : Int} (h1 : 0 ≤ c) (h2 : c ≤ 255) : gM l s0 G yX0_isBlank [Cond.code yX0_isBlank cX0_isBlank 1 (some .boolean)] rmc_X0_isBlank [iv c] w (fun v w' => v = some (iv (b2 (blk c))) ∧ w' = w) (noX) := by
  refine g_of h0 htr (by decide +kernel) (Nat.le_of_ble_eq_true rfl) ?_
  intro b Z0 E
  have Z : gAm b l s0 G cX0_isBlank RX0 1 rmc_X0_isBlank := Z0
  refine x_el (L' := [(0, iv c)]) rfl ?_
  refine x_iload_n Z dX0_isBlank_0 rfl rfl ?_
  refine x_bipush Z dX0_isBlank_1 (by decide +kernel) ?_
  refine x_icmp_lt Z 12 dX0_isBlank_3 (by decide) ⟨by omega, by omega⟩ ⟨by omega, by omega⟩ (fun c3 => ?_) (fun c3 => ?_)
  ·
    refine x_iload_n Z dX0_isBlank_12 rfl rfl ?_
    refine x_bipush Z dX0_isBlank_13 (by decide +kernel) ?_
    refine x_icmp_lt Z 28 dX0_isBlank_15 (by decide) ⟨by omega, by omega⟩ ⟨by omega, by omega⟩ (fun c15 => ?_) (fun c15 => ?_)
    ·
      refine x_ib false Z dX0_isBlank_28 (by decide) ?_
      exact x_zret Z E (⟨by first | (rw [show blk c = true from by unfold blk; simp; omega]; done) | (rw [show blk c = false from by unfold blk; simp; omega]; done), rfl⟩) dX0_isBlank_29 (Nat.le_of_ble_eq_true rfl) (Nat.le_of_ble_eq_true rfl)
    ·
      refine x_iload_n Z dX0_isBlank_18 rfl rfl ?_
      refine x_bipush Z dX0_isBlank_19 (by decide +kernel) ?_
      refine x_icmp_gt Z 28 dX0_isBlank_21 (by decide) ⟨by omega, by omega⟩ ⟨by omega, by omega⟩ (fun c21 => ?_) (fun c21 => ?_)
      ·
        refine x_ib false Z dX0_isBlank_28 (by decide) ?_
        exact x_zret Z E (⟨by first | (rw [show blk c = true from by unfold blk; simp; omega]; done) | (rw [show blk c = false from by unfold blk; simp; omega]; done), rfl⟩) dX0_isBlank_29 (Nat.le_of_ble_eq_true rfl) (Nat.le_of_ble_eq_true rfl)
      ·
        refine x_ib true Z dX0_isBlank_24 (by decide) ?_
        refine x_goto Z 29 dX0_isBlank_25 (by decide) ?_
        exact x_zret Z E (⟨by first | (rw [show blk c = true from by unfold blk; simp; omega]; done) | (rw [show blk c = false from by unfold blk; simp; omega]; done), rfl⟩) dX0_isBlank_29 (Nat.le_of_ble_eq_true rfl) (Nat.le_of_ble_eq_true rfl)
  ·
    refine x_iload_n Z dX0_isBlank_6 rfl rfl ?_
    refine x_bipush Z dX0_isBlank_7 (by decide +kernel) ?_
    refine x_icmp_le Z 24 dX0_isBlank_9 (by decide) ⟨by omega, by omega⟩ ⟨by omega, by omega⟩ (fun c9 => ?_) (fun c9 => ?_)
    ·
      refine x_ib true Z dX0_isBlank_24 (by decide) ?_
      refine x_goto Z 29 dX0_isBlank_25 (by decide) ?_
      exact x_zret Z E (⟨by first | (rw [show blk c = true from by unfold blk; simp; omega]; done) | (rw [show blk c = false from by unfold blk; simp; omega]; done), rfl⟩) dX0_isBlank_29 (Nat.le_of_ble_eq_true rfl) (Nat.le_of_ble_eq_true rfl)
    ·
      refine x_iload_n Z dX0_isBlank_12 rfl rfl ?_
      refine x_bipush Z dX0_isBlank_13 (by decide +kernel) ?_
      refine x_icmp_lt Z 28 dX0_isBlank_15 (by decide) ⟨by omega, by omega⟩ ⟨by omega, by omega⟩ (fun c15 => ?_) (fun c15 => ?_)
      ·
        refine x_ib false Z dX0_isBlank_28 (by decide) ?_
        exact x_zret Z E (⟨by first | (rw [show blk c = true from by unfold blk; simp; omega]; done) | (rw [show blk c = false from by unfold blk; simp; omega]; done), rfl⟩) dX0_isBlank_29 (Nat.le_of_ble_eq_true rfl) (Nat.le_of_ble_eq_true rfl)
      ·
        refine x_iload_n Z dX0_isBlank_18 rfl rfl ?_
        refine x_bipush Z dX0_isBlank_19 (by decide +kernel) ?_
        refine x_icmp_gt Z 28 dX0_isBlank_21 (by decide) ⟨by omega, by omega⟩ ⟨by omega, by omega⟩ (fun c21 => ?_) (fun c21 => ?_)
        ·
          refine x_ib false Z dX0_isBlank_28 (by decide) ?_
          exact x_zret Z E (⟨by first | (rw [show blk c = true from by unfold blk; simp; omega]; done) | (rw [show blk c = false from by unfold blk; simp; omega]; done), rfl⟩) dX0_isBlank_29 (Nat.le_of_ble_eq_true rfl) (Nat.le_of_ble_eq_true rfl)
        ·
          refine x_ib true Z dX0_isBlank_24 (by decide) ?_
          refine x_goto Z 29 dX0_isBlank_25 (by decide) ?_
          exact x_zret Z E (⟨by first | (rw [show blk c = true from by unfold blk; simp; omega]; done) | (rw [show blk c = false from by unfold blk; simp; omega]; done), rfl⟩) dX0_isBlank_29 (Nat.le_of_ble_eq_true rfl) (Nat.le_of_ble_eq_true rfl)
abbrev rmc_X0_kindNumber : Room := { frames := 0, cells := 0, slots := 0, locals := 0 }
set_option maxRecDepth 100000 in
theorem c_X0_kindNumber {l : Launch} {s0 : State} {G : gK} {w : wd} (h0 : gS0 s0) (htr : l.stackTraces = false) {c : Int} (h1 : 0 ≤ c) (h2 : c ≤ 255) : gM l s0 G yX0_kindNumber [Cond.code yX0_kindNumber cX0_kindNumber 1 (some .int)] rmc_X0_kindNumber [iv c] w (fun v w' => v = some (iv (kin c)) ∧ w' = w) (noX) := by
  refine g_of h0 htr (by decide +kernel) (Nat.le_of_ble_eq_true rfl) ?_
  intro b Z0 E
  have Z : gAm b l s0 G cX0_kindNumber RX0 1 rmc_X0_kindNumber := Z0
  refine x_el (L' := [(0, iv c)]) rfl ?_
  obtain ⟨tK, hzKINDS, htK⟩ := st_KINDS h0 Z
  refine x_gets Z hzKINDS q111 rfl dX0_kindNumber_0 ?_
  refine x_iload_n Z dX0_kindNumber_3 rfl rfl ?_
  refine x_tb Z htK (by decide) (by omega) (by omega) dX0_kindNumber_4 ?_
  exact x_iret Z E (⟨rfl, rfl⟩) dX0_kindNumber_5 (Nat.le_of_ble_eq_true rfl) (Nat.le_of_ble_eq_true rfl)
abbrev rmc_X0_isSo : Room := { frames := 1, cells := 0, slots := 0, locals := 21 }
set_option maxRecDepth 100000 in
theorem c_X0_isSo {l : Launch} {s0 : State} {G : gK} {w : wd} (h0 : gS0 s0) (htr : l.stackTraces = false) {c q : Int} (h1 : 0 ≤ c) (h2 : c ≤ 255) (h3 : 0 ≤ q) (h4 : q ≤ 14) : gM l s0 G yX0_isSo [Cond.code yX0_isSo cX0_isSo 3 (some .boolean)] rmc_X0_isSo [iv c, iv q] w (fun v w' => v = some (iv (b2 (so c q))) ∧ w' = w) (noX) := by
  refine g_of h0 htr (by decide +kernel) (Nat.le_of_ble_eq_true rfl) ?_
  intro b Z0 E
  have Z : gAm b l s0 G cX0_isSo RX0 3 rmc_X0_isSo := Z0
  refine x_el (L' := [(0, iv c), (1, iv q)]) rfl ?_
  obtain ⟨tK, hzKINDS, htK⟩ := st_KINDS h0 Z
  obtain ⟨tQ, hzKINDS_OF_QUESTION, htQ⟩ := st_KINDS_OF_QUESTION h0 Z
  refine x_gets Z hzKINDS_OF_QUESTION q137 rfl dX0_isSo_0 ?_
  refine x_iload_n Z dX0_isSo_3 rfl rfl ?_
  refine x_ti Z htQ (by decide) (by omega) (by omega) dX0_isSo_4 ?_
  refine x_gets Z hzKINDS q111 rfl dX0_isSo_5 ?_
  refine x_iload_n Z dX0_isSo_8 rfl rfl ?_
  refine x_tb Z htK (by decide) (by omega) (by omega) dX0_isSo_9 ?_
  refine x_callSN Z okX2_isIn q139 q140 dX0_isSo_10 (c_X2_isIn h0 htr ) ⟨Nat.le_of_ble_eq_true rfl, Nat.le_of_ble_eq_true rfl, Nat.le_of_ble_eq_true rfl, Nat.le_of_ble_eq_true rfl⟩ rfl rfl (Nat.le_of_ble_eq_true rfl) (fun v9 w9 hR => ?_)
  obtain ⟨rfl, e9⟩ := hR
  refine x_ew e9 ?_
  simp only [Option.toList_some, Option.toList_none, List.cons_append, List.nil_append]
  refine x_istore_n (L' := [(2, _), (0, _), (1, _)]) Z dX0_isSo_13 rfl (Nat.le_of_ble_eq_true rfl) rfl ?_
  refine x_iload_n Z dX0_isSo_14 rfl rfl ?_
  rcases (by omega : (q < 7 ∨ 13 < q) ∨ q = 7 ∨ q = 8 ∨ q = 9 ∨ q = 10 ∨ q = 11 ∨ q = 12 ∨ q = 13) with hs | hs | hs | hs | hs | hs | hs | hs
  ·
    refine x_tabOut Z 100 dX0_isSo_15 ⟨by omega, by omega⟩ (by omega) (by decide) ?_
    refine x_iload_n Z dX0_isSo_100 rfl rfl ?_
    exact x_zret Z E (⟨by rw [so_o (by omega) (by omega) (by omega) (by omega)], rfl⟩) dX0_isSo_101 (Nat.le_of_ble_eq_true rfl) (Nat.le_of_ble_eq_true rfl)
  ·
    refine x_tabIn Z 56 dX0_isSo_15 ⟨by omega, by omega⟩ (by omega) (by omega) (by rw [hs]; rfl) (by decide) ?_
    refine x_iload_n Z dX0_isSo_56 rfl rfl ?_
    refine x_callS Z okX0_isBlank q142 q143 dX0_isSo_57 (c_X0_isBlank h0 htr (by omega) (by omega)) ⟨Nat.le_of_ble_eq_true rfl, Nat.le_of_ble_eq_true rfl, Nat.le_of_ble_eq_true rfl, Nat.le_of_ble_eq_true rfl⟩ rfl rfl (Nat.le_of_ble_eq_true rfl) (fun v9 w9 hR => ?_)
    obtain ⟨rfl, e9⟩ := hR
    refine x_ew e9 ?_
    simp only [Option.toList_some, Option.toList_none, List.cons_append, List.nil_append]
    exact x_zret Z E (⟨by rw [hs]; rfl, rfl⟩) dX0_isSo_60 (Nat.le_of_ble_eq_true rfl) (Nat.le_of_ble_eq_true rfl)
  ·
    refine x_tabIn Z 100 dX0_isSo_15 ⟨by omega, by omega⟩ (by omega) (by omega) (by rw [hs]; rfl) (by decide) ?_
    refine x_iload_n Z dX0_isSo_100 rfl rfl ?_
    exact x_zret Z E (⟨by rw [so_o (by omega) (by omega) (by omega) (by omega)], rfl⟩) dX0_isSo_101 (Nat.le_of_ble_eq_true rfl) (Nat.le_of_ble_eq_true rfl)
  ·
    refine x_tabIn Z 100 dX0_isSo_15 ⟨by omega, by omega⟩ (by omega) (by omega) (by rw [hs]; rfl) (by decide) ?_
    refine x_iload_n Z dX0_isSo_100 rfl rfl ?_
    exact x_zret Z E (⟨by rw [so_o (by omega) (by omega) (by omega) (by omega)], rfl⟩) dX0_isSo_101 (Nat.le_of_ble_eq_true rfl) (Nat.le_of_ble_eq_true rfl)
  ·
    refine x_tabIn Z 61 dX0_isSo_15 ⟨by omega, by omega⟩ (by omega) (by omega) (by rw [hs]; rfl) (by decide) ?_
    refine x_iload_n Z dX0_isSo_61 rfl rfl ?_
    refine x_ifb_ne Z 77 dX0_isSo_62 (by decide) (fun c62 => ?_) (fun c62 => ?_)
    ·
      refine x_ib true Z dX0_isSo_77 (by decide) ?_
      refine x_goto Z 82 dX0_isSo_78 (by decide) ?_
      exact x_zret Z E (⟨by rw [so10 (by omega)]; first | simp [c62, c68, c74] | simp [c62, c68] | simp [c62], rfl⟩) dX0_isSo_82 (Nat.le_of_ble_eq_true rfl) (Nat.le_of_ble_eq_true rfl)
    ·
      refine x_iload_n Z dX0_isSo_65 rfl rfl ?_
      refine x_bipush Z dX0_isSo_66 (by decide +kernel) ?_
      refine x_icmp_eq Z 77 dX0_isSo_68 (by decide) ⟨by omega, by omega⟩ ⟨by omega, by omega⟩ (fun c68 => ?_) (fun c68 => ?_)
      ·
        refine x_ib true Z dX0_isSo_77 (by decide) ?_
        refine x_goto Z 82 dX0_isSo_78 (by decide) ?_
        exact x_zret Z E (⟨by rw [so10 (by omega)]; first | simp [c62, c68, c74] | simp [c62, c68] | simp [c62], rfl⟩) dX0_isSo_82 (Nat.le_of_ble_eq_true rfl) (Nat.le_of_ble_eq_true rfl)
      ·
        refine x_iload_n Z dX0_isSo_71 rfl rfl ?_
        refine x_bipush Z dX0_isSo_72 (by decide +kernel) ?_
        refine x_icmp_ne Z 81 dX0_isSo_74 (by decide) ⟨by omega, by omega⟩ ⟨by omega, by omega⟩ (fun c74 => ?_) (fun c74 => ?_)
        ·
          refine x_ib false Z dX0_isSo_81 (by decide) ?_
          exact x_zret Z E (⟨by rw [so10 (by omega)]; first | simp [c62, c68, c74] | simp [c62, c68] | simp [c62], rfl⟩) dX0_isSo_82 (Nat.le_of_ble_eq_true rfl) (Nat.le_of_ble_eq_true rfl)
        ·
          refine x_ib true Z dX0_isSo_77 (by decide) ?_
          refine x_goto Z 82 dX0_isSo_78 (by decide) ?_
          exact x_zret Z E (⟨by rw [so10 (by omega)]; first | simp [c62, c68, c74] | simp [c62, c68] | simp [c62], rfl⟩) dX0_isSo_82 (Nat.le_of_ble_eq_true rfl) (Nat.le_of_ble_eq_true rfl)
  ·
    refine x_tabIn Z 100 dX0_isSo_15 ⟨by omega, by omega⟩ (by omega) (by omega) (by rw [hs]; rfl) (by decide) ?_
    refine x_iload_n Z dX0_isSo_100 rfl rfl ?_
    exact x_zret Z E (⟨by rw [so_o (by omega) (by omega) (by omega) (by omega)], rfl⟩) dX0_isSo_101 (Nat.le_of_ble_eq_true rfl) (Nat.le_of_ble_eq_true rfl)
  ·
    refine x_tabIn Z 83 dX0_isSo_15 ⟨by omega, by omega⟩ (by omega) (by omega) (by rw [hs]; rfl) (by decide) ?_
    refine x_iload_n Z dX0_isSo_83 rfl rfl ?_
    refine x_ifb_eq Z 98 dX0_isSo_84 (by decide) (fun c84 => ?_) (fun c84 => ?_)
    ·
      refine x_ib false Z dX0_isSo_98 (by decide) ?_
      exact x_zret Z E (⟨by rw [so12 (by omega)]; first | simp [c84, c91] | simp [c84], rfl⟩) dX0_isSo_99 (Nat.le_of_ble_eq_true rfl) (Nat.le_of_ble_eq_true rfl)
    ·
      refine x_iload_n Z dX0_isSo_87 rfl rfl ?_
      refine x_callS Z okX0_isBlank q142 q143 dX0_isSo_88 (c_X0_isBlank h0 htr (by omega) (by omega)) ⟨Nat.le_of_ble_eq_true rfl, Nat.le_of_ble_eq_true rfl, Nat.le_of_ble_eq_true rfl, Nat.le_of_ble_eq_true rfl⟩ rfl rfl (Nat.le_of_ble_eq_true rfl) (fun v9 w9 hR => ?_)
      obtain ⟨rfl, e9⟩ := hR
      refine x_ew e9 ?_
      simp only [Option.toList_some, Option.toList_none, List.cons_append, List.nil_append]
      refine x_ifb_ne Z 98 dX0_isSo_91 (by decide) (fun c91 => ?_) (fun c91 => ?_)
      ·
        refine x_ib false Z dX0_isSo_98 (by decide) ?_
        exact x_zret Z E (⟨by rw [so12 (by omega)]; first | simp [c84, c91] | simp [c84], rfl⟩) dX0_isSo_99 (Nat.le_of_ble_eq_true rfl) (Nat.le_of_ble_eq_true rfl)
      ·
        refine x_ib true Z dX0_isSo_94 (by decide) ?_
        refine x_goto Z 99 dX0_isSo_95 (by decide) ?_
        exact x_zret Z E (⟨by rw [so12 (by omega)]; first | simp [c84, c91] | simp [c84], rfl⟩) dX0_isSo_99 (Nat.le_of_ble_eq_true rfl) (Nat.le_of_ble_eq_true rfl)
  ·
    refine x_tabIn Z 83 dX0_isSo_15 ⟨by omega, by omega⟩ (by omega) (by omega) (by rw [hs]; rfl) (by decide) ?_
    refine x_iload_n Z dX0_isSo_83 rfl rfl ?_
    refine x_ifb_eq Z 98 dX0_isSo_84 (by decide) (fun c84 => ?_) (fun c84 => ?_)
    ·
      refine x_ib false Z dX0_isSo_98 (by decide) ?_
      exact x_zret Z E (⟨by rw [so12 (by omega)]; first | simp [c84, c91] | simp [c84], rfl⟩) dX0_isSo_99 (Nat.le_of_ble_eq_true rfl) (Nat.le_of_ble_eq_true rfl)
    ·
      refine x_iload_n Z dX0_isSo_87 rfl rfl ?_
      refine x_callS Z okX0_isBlank q142 q143 dX0_isSo_88 (c_X0_isBlank h0 htr (by omega) (by omega)) ⟨Nat.le_of_ble_eq_true rfl, Nat.le_of_ble_eq_true rfl, Nat.le_of_ble_eq_true rfl, Nat.le_of_ble_eq_true rfl⟩ rfl rfl (Nat.le_of_ble_eq_true rfl) (fun v9 w9 hR => ?_)
      obtain ⟨rfl, e9⟩ := hR
      refine x_ew e9 ?_
      simp only [Option.toList_some, Option.toList_none, List.cons_append, List.nil_append]
      refine x_ifb_ne Z 98 dX0_isSo_91 (by decide) (fun c91 => ?_) (fun c91 => ?_)
      ·
        refine x_ib false Z dX0_isSo_98 (by decide) ?_
        exact x_zret Z E (⟨by rw [so12 (by omega)]; first | simp [c84, c91] | simp [c84], rfl⟩) dX0_isSo_99 (Nat.le_of_ble_eq_true rfl) (Nat.le_of_ble_eq_true rfl)
      ·
        refine x_ib true Z dX0_isSo_94 (by decide) ?_
        refine x_goto Z 99 dX0_isSo_95 (by decide) ?_
        exact x_zret Z E (⟨by rw [so12 (by omega)]; first | simp [c84, c91] | simp [c84], rfl⟩) dX0_isSo_99 (Nat.le_of_ble_eq_true rfl) (Nat.le_of_ble_eq_true rfl)
abbrev rmc_X0_isLet : Room := { frames := 2, cells := 0, slots := 0, locals := 43 }
set_option maxRecDepth 100000 in
theorem c_X0_isLet {l : Launch} {s0 : State} {G : gK} {w : wd} (h0 : gS0 s0) (htr : l.stackTraces = false) {c : Int} {f : Bool} (h1 : 0 ≤ c) (h2 : c ≤ 255) : gM l s0 G yX0_isLet [Cond.code yX0_isLet cX0_isLet 2 (some .boolean)] rmc_X0_isLet [iv c, iv (b2 f)] w (fun v w' => v = some (iv (b2 (so c (cond f 11 12)))) ∧ w' = w) (noX) := by
  refine g_of h0 htr (by decide +kernel) (Nat.le_of_ble_eq_true rfl) ?_
  intro b Z0 E
  have Z : gAm b l s0 G cX0_isLet RX0 2 rmc_X0_isLet := Z0
  refine x_el (L' := [(0, iv c), (1, iv (b2 f))]) rfl ?_
  refine x_iload_n Z dX0_isLet_0 rfl rfl ?_
  refine x_iload_n Z dX0_isLet_1 rfl rfl ?_
  refine x_ifb_eq Z 10 dX0_isLet_2 (by decide) (fun c2 => ?_) (fun c2 => ?_)
  ·
    refine x_bipush Z dX0_isLet_10 (by decide +kernel) ?_
    refine x_callS Z okX0_isSo q134 q135 dX0_isLet_12 (c_X0_isSo h0 htr (by omega) (by omega) (by omega) (by omega)) ⟨Nat.le_of_ble_eq_true rfl, Nat.le_of_ble_eq_true rfl, Nat.le_of_ble_eq_true rfl, Nat.le_of_ble_eq_true rfl⟩ rfl rfl (Nat.le_of_ble_eq_true rfl) (fun v9 w9 hR => ?_)
    obtain ⟨rfl, e9⟩ := hR
    refine x_ew e9 ?_
    simp only [Option.toList_some, Option.toList_none, List.cons_append, List.nil_append]
    exact x_zret Z E (⟨by rw [c2]; rfl, rfl⟩) dX0_isLet_15 (Nat.le_of_ble_eq_true rfl) (Nat.le_of_ble_eq_true rfl)
  ·
    refine x_bipush Z dX0_isLet_5 (by decide +kernel) ?_
    refine x_goto Z 12 dX0_isLet_7 (by decide) ?_
    refine x_callS Z okX0_isSo q134 q135 dX0_isLet_12 (c_X0_isSo h0 htr (by omega) (by omega) (by omega) (by omega)) ⟨Nat.le_of_ble_eq_true rfl, Nat.le_of_ble_eq_true rfl, Nat.le_of_ble_eq_true rfl, Nat.le_of_ble_eq_true rfl⟩ rfl rfl (Nat.le_of_ble_eq_true rfl) (fun v9 w9 hR => ?_)
    obtain ⟨rfl, e9⟩ := hR
    refine x_ew e9 ?_
    simp only [Option.toList_some, Option.toList_none, List.cons_append, List.nil_append]
    exact x_zret Z E (⟨by rw [c2]; rfl, rfl⟩) dX0_isLet_15 (Nat.le_of_ble_eq_true rfl) (Nat.le_of_ble_eq_true rfl)
abbrev rmc_X0_sortBegunBy : Room := { frames := 2, cells := 0, slots := 0, locals := 43 }
set_option maxRecDepth 100000 in
theorem c_X0_sortBegunBy {l : Launch} {s0 : State} {G : gK} {w : wd} (h0 : gS0 s0) (htr : l.stackTraces = false) {c : Int} (h1 : 0 ≤ c) (h2 : c ≤ 255) : gM l s0 G yX0_sortBegunBy [Cond.code yX0_sortBegunBy cX0_sortBegunBy 2 (some .int)] rmc_X0_sortBegunBy [iv c] w (fun v w' => v = some (iv (sb c)) ∧ w' = w) (noX) := by
  refine g_of h0 htr (by decide +kernel) (Nat.le_of_ble_eq_true rfl) ?_
  intro b Z0 E
  have Z : gAm b l s0 G cX0_sortBegunBy RX0 2 rmc_X0_sortBegunBy := Z0
  refine x_el (L' := [(0, iv c)]) rfl ?_
  obtain ⟨tF, hzFIRST_OF_SORT, htF⟩ := st_FIRST_OF_SORT h0 Z
  refine x_iconst Z dX0_sortBegunBy_0 ?_
  refine x_istore_n (L' := [(1, _), (0, _)]) Z dX0_sortBegunBy_1 rfl (Nat.le_of_ble_eq_true rfl) rfl ?_
  have loop2 : ∀ (fu : Nat) (i : Int), 4 - i < (fu : Int) → (0 ≤ i ∧ i ≤ 4 ∧ ∀ j, 0 ≤ j → j < i → so c (fs4 j) = false) → gX b s0 G (0) (0) 2 [(1, iv i), (0, iv c)] [] (w) := by
    intro fu; induction fu with
    | zero => intro i hm hv; exact absurd hm (by omega)
    | succ fu ih2 =>
      intro i hm hv
      obtain ⟨hi0, hi4, hif⟩ := hv
      refine x_iload_n Z dX0_sortBegunBy_2 rfl rfl ?_
      refine x_iconst Z dX0_sortBegunBy_3 ?_
      refine x_icmp_ge Z 27 dX0_sortBegunBy_4 (by decide) ⟨by omega, by omega⟩ ⟨by omega, by omega⟩ (fun c4 => ?_) (fun c4 => ?_)
      ·
        refine x_iconst Z dX0_sortBegunBy_27 ?_
        exact x_iret Z E (⟨by rw [sb_no (fun j j0 j1 => hif j j0 (by omega))], rfl⟩) dX0_sortBegunBy_28 (Nat.le_of_ble_eq_true rfl) (Nat.le_of_ble_eq_true rfl)
      ·
        refine x_iload_n Z dX0_sortBegunBy_7 rfl rfl ?_
        refine x_gets Z hzFIRST_OF_SORT q132 rfl dX0_sortBegunBy_8 ?_
        refine x_iload_n Z dX0_sortBegunBy_11 rfl rfl ?_
        refine x_ti Z htF (by decide) (by omega) (by omega) dX0_sortBegunBy_12 ?_
        have hf4 := fs4_in (s := i) (by omega) (by omega)
        refine x_callS Z okX0_isSo q134 q135 dX0_sortBegunBy_13 (c_X0_isSo h0 htr (by omega) (by omega) (by omega) (by omega)) ⟨Nat.le_of_ble_eq_true rfl, Nat.le_of_ble_eq_true rfl, Nat.le_of_ble_eq_true rfl, Nat.le_of_ble_eq_true rfl⟩ rfl rfl (Nat.le_of_ble_eq_true rfl) (fun v9 w9 hR => ?_)
        obtain ⟨rfl, e9⟩ := hR
        refine x_ew e9 ?_
        simp only [Option.toList_some, Option.toList_none, List.cons_append, List.nil_append]
        refine x_ifb_eq Z 21 dX0_sortBegunBy_16 (by decide) (fun c16 => ?_) (fun c16 => ?_)
        ·
          refine x_iinc (L' := [(1, _), (0, _)]) Z dX0_sortBegunBy_21 rfl (Nat.le_of_ble_eq_true rfl) rfl ?_
          refine x_goto Z 2 dX0_sortBegunBy_24 (by decide) ?_
          exact ih2 (i + 1) (by omega) ⟨by omega, by omega, fun j j0 j1 => by
            rcases (by omega : j < i ∨ j = i) with hj | hj
            · exact hif j j0 hj
            · subst hj; exact c16⟩
        ·
          refine x_iload_n Z dX0_sortBegunBy_19 rfl rfl ?_
          exact x_iret Z E (⟨by rw [sb_is hi0 (by omega) hif c16], rfl⟩) dX0_sortBegunBy_20 (Nat.le_of_ble_eq_true rfl) (Nat.le_of_ble_eq_true rfl)
  exact loop2 5 0 (by omega) ⟨by omega, by omega, fun j j0 j1 => by omega⟩
abbrev rmc_X0_questionOfOthers : Room := { frames := 0, cells := 0, slots := 0, locals := 0 }
set_option maxRecDepth 100000 in
theorem c_X0_questionOfOthers {l : Launch} {s0 : State} {G : gK} {w : wd} (h0 : gS0 s0) (htr : l.stackTraces = false) {s : Int} (h1 : 0 ≤ s) (h2 : s ≤ 4) : gM l s0 G yX0_questionOfOthers [Cond.code yX0_questionOfOthers cX0_questionOfOthers 1 (some .int)] rmc_X0_questionOfOthers [iv s] w (fun v w' => v = some (iv (oth s)) ∧ w' = w) (noX) := by
  refine g_of h0 htr (by decide +kernel) (Nat.le_of_ble_eq_true rfl) ?_
  intro b Z0 E
  have Z : gAm b l s0 G cX0_questionOfOthers RX0 1 rmc_X0_questionOfOthers := Z0
  refine x_el (L' := [(0, iv s)]) rfl ?_
  obtain ⟨tO, hzOTHERS_OF_SORT, htO⟩ := st_OTHERS_OF_SORT h0 Z
  refine x_gets Z hzOTHERS_OF_SORT q148 rfl dX0_questionOfOthers_0 ?_
  refine x_iload_n Z dX0_questionOfOthers_3 rfl rfl ?_
  refine x_ti Z htO (by decide) (by omega) (by omega) dX0_questionOfOthers_4 ?_
  exact x_iret Z E (⟨rfl, rfl⟩) dX0_questionOfOthers_5 (Nat.le_of_ble_eq_true rfl) (Nat.le_of_ble_eq_true rfl)
abbrev rmc_X1_size : Room := { frames := 0, cells := 0, slots := 0, locals := 0 }
set_option maxRecDepth 100000 in
theorem c_X1_size {l : Launch} {s0 : State} {G : gK} {w : wd} (h0 : gS0 s0) (htr : l.stackTraces = false) {a r bb : Nat} {n : Int} {C B : Int → Int} (ht : tX G w a r bb n C B) : gM l s0 G yX1_size [Cond.code yX1_size cX1_size 1 (some .int)] rmc_X1_size [rv a] w (fun v w' => v = some (iv (n)) ∧ w' = w) (noX) := by
  refine g_of h0 htr (by decide +kernel) (Nat.le_of_ble_eq_true rfl) ?_
  intro b Z0 E
  have Z : gAm b l s0 G cX1_size RX1 1 rmc_X1_size := Z0
  refine x_el (L' := [(0, rv a)]) rfl ?_
  obtain ⟨ha, hr, hb, hn0, hn30, hC⟩ := id ht
  refine x_aload_n Z dX1_size_0 rfl rfl ?_
  refine x_getf (ci := 2) (j := 1) (C := RX1) (T := TX1) (N := 3) Z inX1g rfl (by decide) q73 rfl dX1_size_1 (by assumption) rfl ?_
  exact x_iret Z E (⟨rfl, rfl⟩) dX1_size_4 (Nat.le_of_ble_eq_true rfl) (Nat.le_of_ble_eq_true rfl)
abbrev rmc_X1_signAt : Room := { frames := 0, cells := 0, slots := 0, locals := 0 }
set_option maxRecDepth 100000 in
theorem c_X1_signAt {l : Launch} {s0 : State} {G : gK} {w : wd} (h0 : gS0 s0) (htr : l.stackTraces = false) {a r bb : Nat} {n : Int} {C B : Int → Int} {p : Int} (ht : tX G w a r bb n C B) (h1 : 0 ≤ p) (h2 : p < 30) : gM l s0 G yX1_signAt [Cond.code yX1_signAt cX1_signAt 2 (some .int)] rmc_X1_signAt [rv a, iv p] w (fun v w' => v = some (iv (C p)) ∧ w' = w) (noX) := by
  refine g_of h0 htr (by decide +kernel) (Nat.le_of_ble_eq_true rfl) ?_
  intro b Z0 E
  have Z : gAm b l s0 G cX1_signAt RX1 2 rmc_X1_signAt := Z0
  refine x_el (L' := [(0, rv a), (1, iv p)]) rfl ?_
  obtain ⟨ha, hr, hb, hn0, hn30, hC⟩ := id ht
  refine x_aload_n Z dX1_signAt_0 rfl rfl ?_
  refine x_getf (ci := 2) (j := 0) (C := RX1) (T := TX1) (N := 3) Z inX1g rfl (by decide) q72 rfl dX1_signAt_1 (by assumption) rfl ?_
  refine x_iload_n Z dX1_signAt_4 rfl rfl ?_
  refine x_bald Z dX1_signAt_5 (by assumption) (by omega) (by omega) (by omega) ?_
  refine x_sipush Z dX1_signAt_6 (by decide +kernel) ?_
  refine x_iand Z dX1_signAt_9 ?_
  exact x_iret Z E (⟨by rw [show bAnd (sgF C p) 255 = C p from sgn_byte (hC p).1 (hC p).2], rfl⟩) dX1_signAt_10 (Nat.le_of_ble_eq_true rfl) (Nat.le_of_ble_eq_true rfl)
abbrev rmc_X1_kindAt : Room := { frames := 1, cells := 0, slots := 0, locals := 21 }
set_option maxRecDepth 100000 in
theorem c_X1_kindAt {l : Launch} {s0 : State} {G : gK} {w : wd} (h0 : gS0 s0) (htr : l.stackTraces = false) {a r bb : Nat} {n : Int} {C B : Int → Int} {p : Int} (ht : tX G w a r bb n C B) (h1 : 0 ≤ p) (h2 : p < 30) : gM l s0 G yX1_kindAt [Cond.code yX1_kindAt cX1_kindAt 2 (some .int)] rmc_X1_kindAt [rv a, iv p] w (fun v w' => v = some (iv (kin (C p))) ∧ w' = w) (noX) := by
  refine g_of h0 htr (by decide +kernel) (Nat.le_of_ble_eq_true rfl) ?_
  intro b Z0 E
  have Z : gAm b l s0 G cX1_kindAt RX1 2 rmc_X1_kindAt := Z0
  refine x_el (L' := [(0, rv a), (1, iv p)]) rfl ?_
  obtain ⟨ha, hr, hb, hn0, hn30, hC⟩ := id ht
  have hCp := hC (p)
  refine x_aload_n Z dX1_kindAt_0 rfl rfl ?_
  refine x_iload_n Z dX1_kindAt_1 rfl rfl ?_
  refine x_callV (ci := 2) (C := RX1) (T := TX1) (N := 3) Z okX1_signAt q125 q126 q127 rfl dX1_kindAt_2 (c_X1_signAt h0 htr ht (by omega) (by omega)) ht.1 ⟨Nat.le_of_ble_eq_true rfl, Nat.le_of_ble_eq_true rfl, Nat.le_of_ble_eq_true rfl, Nat.le_of_ble_eq_true rfl⟩ rfl rfl (Nat.le_of_ble_eq_true rfl) (fun v9 w9 hR => ?_)
  obtain ⟨rfl, e9⟩ := hR
  refine x_ew e9 ?_
  simp only [Option.toList_some, Option.toList_none, List.cons_append, List.nil_append]
  refine x_callS Z okX0_kindNumber q204 q109 dX1_kindAt_5 (c_X0_kindNumber h0 htr (by omega) (by omega)) ⟨Nat.le_of_ble_eq_true rfl, Nat.le_of_ble_eq_true rfl, Nat.le_of_ble_eq_true rfl, Nat.le_of_ble_eq_true rfl⟩ rfl rfl (Nat.le_of_ble_eq_true rfl) (fun v9 w9 hR => ?_)
  obtain ⟨rfl, e9⟩ := hR
  refine x_ew e9 ?_
  simp only [Option.toList_some, Option.toList_none, List.cons_append, List.nil_append]
  exact x_iret Z E (⟨rfl, rfl⟩) dX1_kindAt_8 (Nat.le_of_ble_eq_true rfl) (Nat.le_of_ble_eq_true rfl)
abbrev rmc_X1_allPlaces : Room := { frames := 0, cells := 0, slots := 0, locals := 0 }
set_option maxRecDepth 100000 in
theorem c_X1_allPlaces {l : Launch} {s0 : State} {G : gK} {w : wd} (h0 : gS0 s0) (htr : l.stackTraces = false) {a r bb : Nat} {n : Int} {C B : Int → Int} (ht : tX G w a r bb n C B) : gM l s0 G yX1_allPlaces [Cond.code yX1_allPlaces cX1_allPlaces 1 (some .int)] rmc_X1_allPlaces [rv a] w (fun v w' => v = some (iv (bShl 1 n - 1)) ∧ w' = w) (noX) := by
  refine g_of h0 htr (by decide +kernel) (Nat.le_of_ble_eq_true rfl) ?_
  intro b Z0 E
  have Z : gAm b l s0 G cX1_allPlaces RX1 1 rmc_X1_allPlaces := Z0
  refine x_el (L' := [(0, rv a)]) rfl ?_
  obtain ⟨ha, hr, hb, hn0, hn30, hC⟩ := id ht
  refine x_iconst Z dX1_allPlaces_0 ?_
  refine x_aload_n Z dX1_allPlaces_1 rfl rfl ?_
  refine x_getf (ci := 2) (j := 1) (C := RX1) (T := TX1) (N := 3) Z inX1g rfl (by decide) q73 rfl dX1_allPlaces_2 (by assumption) rfl ?_
  refine x_ishl Z dX1_allPlaces_5 ?_
  refine x_iconst Z dX1_allPlaces_6 ?_
  refine x_isub Z dX1_allPlaces_7 ?_
  exact x_iret Z E (⟨rfl, rfl⟩) dX1_allPlaces_8 (Nat.le_of_ble_eq_true rfl) (Nat.le_of_ble_eq_true rfl)
abbrev rmc_X1_placesOf : Room := { frames := 2, cells := 0, slots := 0, locals := 43 }
set_option maxRecDepth 100000 in
theorem c_X1_placesOf {l : Launch} {s0 : State} {G : gK} {w : wd} (h0 : gS0 s0) (htr : l.stackTraces = false) {a r bb : Nat} {n : Int} {C B : Int → Int} {q : Int} (ht : tX G w a r bb n C B) (h3 : 0 ≤ q) (h4 : q ≤ 14) : gM l s0 G yX1_placesOf [Cond.code yX1_placesOf cX1_placesOf 4 (some .int)] rmc_X1_placesOf [rv a, iv q] w (fun v w' => v = some (iv (msk (fun j => so (C j) q) n)) ∧ w' = w) (noX) := by
  refine g_of h0 htr (by decide +kernel) (Nat.le_of_ble_eq_true rfl) ?_
  intro b Z0 E
  have Z : gAm b l s0 G cX1_placesOf RX1 4 rmc_X1_placesOf := Z0
  refine x_el (L' := [(0, rv a), (1, iv q)]) rfl ?_
  obtain ⟨ha, hr, hb, hn0, hn30, hC⟩ := id ht
  refine x_iconst Z dX1_placesOf_0 ?_
  refine x_istore_n (L' := [(2, _), (0, _), (1, _)]) Z dX1_placesOf_1 rfl (Nat.le_of_ble_eq_true rfl) rfl ?_
  refine x_iconst Z dX1_placesOf_2 ?_
  refine x_istore_n (L' := [(3, _), (2, _), (0, _), (1, _)]) Z dX1_placesOf_3 rfl (Nat.le_of_ble_eq_true rfl) rfl ?_
  have loop4 : ∀ (fu : Nat) (i v : Int), n - i < (fu : Int) → (0 ≤ i ∧ i ≤ n ∧ forI (mstep (fun j => so (C j) q)) i n v = msk (fun j => so (C j) q) n) → gX b s0 G (0) (0) 4 [(3, iv i), (2, iv v), (0, rv a), (1, iv q)] [] (w) := by
    intro fu; induction fu with
    | zero => intro i v hm hv; exact absurd hm (by omega)
    | succ fu ih4 =>
      intro i v hm hv
      obtain ⟨hi0, hin, hif⟩ := hv
      have hCp := hC i
      have hkp := kin_in (C i)
      refine x_iload_n Z dX1_placesOf_4 rfl rfl ?_
      refine x_aload_n Z dX1_placesOf_5 rfl rfl ?_
      refine x_getf (ci := 2) (j := 1) (C := RX1) (T := TX1) (N := 3) Z inX1g rfl (by decide) q73 rfl dX1_placesOf_6 (by assumption) rfl ?_
      refine x_icmp_ge Z 36 dX1_placesOf_9 (by decide) ⟨by omega, by omega⟩ ⟨by omega, by omega⟩ (fun c9 => ?_) (fun c9 => ?_)
      ·
        refine x_iload_n Z dX1_placesOf_36 rfl rfl ?_
        exact x_iret Z E (⟨by rw [← hif, forI_e (by omega)], rfl⟩) dX1_placesOf_37 (Nat.le_of_ble_eq_true rfl) (Nat.le_of_ble_eq_true rfl)
      ·
        refine x_aload_n Z dX1_placesOf_12 rfl rfl ?_
        refine x_iload_n Z dX1_placesOf_13 rfl rfl ?_
        refine x_callV (ci := 2) (C := RX1) (T := TX1) (N := 3) Z okX1_signAt q125 q126 q127 rfl dX1_placesOf_14 (c_X1_signAt h0 htr ht (by omega) (by omega)) ht.1 ⟨Nat.le_of_ble_eq_true rfl, Nat.le_of_ble_eq_true rfl, Nat.le_of_ble_eq_true rfl, Nat.le_of_ble_eq_true rfl⟩ rfl rfl (Nat.le_of_ble_eq_true rfl) (fun v9 w9 hR => ?_)
        obtain ⟨rfl, e9⟩ := hR
        refine x_ew e9 ?_
        simp only [Option.toList_some, Option.toList_none, List.cons_append, List.nil_append]
        refine x_iload_n Z dX1_placesOf_17 rfl rfl ?_
        refine x_callS Z okX0_isSo q150 q135 dX1_placesOf_18 (c_X0_isSo h0 htr (by omega) (by omega) (by omega) (by omega)) ⟨Nat.le_of_ble_eq_true rfl, Nat.le_of_ble_eq_true rfl, Nat.le_of_ble_eq_true rfl, Nat.le_of_ble_eq_true rfl⟩ rfl rfl (Nat.le_of_ble_eq_true rfl) (fun v9 w9 hR => ?_)
        obtain ⟨rfl, e9⟩ := hR
        refine x_ew e9 ?_
        simp only [Option.toList_some, Option.toList_none, List.cons_append, List.nil_append]
        refine x_ifb_eq Z 30 dX1_placesOf_21 (by decide) (fun c21 => ?_) (fun c21 => ?_)
        ·
          refine x_iinc (L' := [(3, _), (2, _), (0, _), (1, _)]) Z dX1_placesOf_30 rfl (Nat.le_of_ble_eq_true rfl) rfl ?_
          refine x_goto Z 4 dX1_placesOf_33 (by decide) ?_
          exact ih4 (i + 1) _ (by omega) ⟨by omega, by omega, by rw [← hif, forI_s (i := i) (by omega)]; first | rw [mstep_t (P := fun j => so (C j) q) c21] | rw [mstep_f (P := fun j => so (C j) q) c21]⟩
        ·
          refine x_iload_n Z dX1_placesOf_24 rfl rfl ?_
          refine x_iconst Z dX1_placesOf_25 ?_
          refine x_iload_n Z dX1_placesOf_26 rfl rfl ?_
          refine x_ishl Z dX1_placesOf_27 ?_
          refine x_ior Z dX1_placesOf_28 ?_
          refine x_istore_n (L' := [(2, _), (3, _), (0, _), (1, _)]) Z dX1_placesOf_29 rfl (Nat.le_of_ble_eq_true rfl) rfl ?_
          refine x_iinc (L' := [(3, _), (2, _), (0, _), (1, _)]) Z dX1_placesOf_30 rfl (Nat.le_of_ble_eq_true rfl) rfl ?_
          refine x_goto Z 4 dX1_placesOf_33 (by decide) ?_
          exact ih4 (i + 1) _ (by omega) ⟨by omega, by omega, by rw [← hif, forI_s (i := i) (by omega)]; first | rw [mstep_t (P := fun j => so (C j) q) c21] | rw [mstep_f (P := fun j => so (C j) q) c21]⟩
  exact loop4 (n.toNat + 1) 0 0 (by omega) ⟨by omega, by omega, rfl⟩
abbrev rmc_X1_placesOfKind : Room := { frames := 2, cells := 0, slots := 0, locals := 42 }
set_option maxRecDepth 100000 in
theorem c_X1_placesOfKind {l : Launch} {s0 : State} {G : gK} {w : wd} (h0 : gS0 s0) (htr : l.stackTraces = false) {a r bb : Nat} {n : Int} {C B : Int → Int} {q : Int} (ht : tX G w a r bb n C B) (h3 : 0 ≤ q) (h4 : q ≤ 30) : gM l s0 G yX1_placesOfKind [Cond.code yX1_placesOfKind cX1_placesOfKind 4 (some .int)] rmc_X1_placesOfKind [rv a, iv q] w (fun v w' => v = some (iv (msk (fun j => decide (kin (C j) = q)) n)) ∧ w' = w) (noX) := by
  refine g_of h0 htr (by decide +kernel) (Nat.le_of_ble_eq_true rfl) ?_
  intro b Z0 E
  have Z : gAm b l s0 G cX1_placesOfKind RX1 4 rmc_X1_placesOfKind := Z0
  refine x_el (L' := [(0, rv a), (1, iv q)]) rfl ?_
  obtain ⟨ha, hr, hb, hn0, hn30, hC⟩ := id ht
  refine x_iconst Z dX1_placesOfKind_0 ?_
  refine x_istore_n (L' := [(2, _), (0, _), (1, _)]) Z dX1_placesOfKind_1 rfl (Nat.le_of_ble_eq_true rfl) rfl ?_
  refine x_iconst Z dX1_placesOfKind_2 ?_
  refine x_istore_n (L' := [(3, _), (2, _), (0, _), (1, _)]) Z dX1_placesOfKind_3 rfl (Nat.le_of_ble_eq_true rfl) rfl ?_
  have loop4 : ∀ (fu : Nat) (i v : Int), n - i < (fu : Int) → (0 ≤ i ∧ i ≤ n ∧ forI (mstep (fun j => decide (kin (C j) = q))) i n v = msk (fun j => decide (kin (C j) = q)) n) → gX b s0 G (0) (0) 4 [(3, iv i), (2, iv v), (0, rv a), (1, iv q)] [] (w) := by
    intro fu; induction fu with
    | zero => intro i v hm hv; exact absurd hm (by omega)
    | succ fu ih4 =>
      intro i v hm hv
      obtain ⟨hi0, hin, hif⟩ := hv
      have hCp := hC i
      have hkp := kin_in (C i)
      refine x_iload_n Z dX1_placesOfKind_4 rfl rfl ?_
      refine x_aload_n Z dX1_placesOfKind_5 rfl rfl ?_
      refine x_getf (ci := 2) (j := 1) (C := RX1) (T := TX1) (N := 3) Z inX1g rfl (by decide) q73 rfl dX1_placesOfKind_6 (by assumption) rfl ?_
      refine x_icmp_ge Z 33 dX1_placesOfKind_9 (by decide) ⟨by omega, by omega⟩ ⟨by omega, by omega⟩ (fun c9 => ?_) (fun c9 => ?_)
      ·
        refine x_iload_n Z dX1_placesOfKind_33 rfl rfl ?_
        exact x_iret Z E (⟨by rw [← hif, forI_e (by omega)], rfl⟩) dX1_placesOfKind_34 (Nat.le_of_ble_eq_true rfl) (Nat.le_of_ble_eq_true rfl)
      ·
        refine x_aload_n Z dX1_placesOfKind_12 rfl rfl ?_
        refine x_iload_n Z dX1_placesOfKind_13 rfl rfl ?_
        refine x_callV (ci := 2) (C := RX1) (T := TX1) (N := 3) Z okX1_kindAt q200 q201 q202 rfl dX1_placesOfKind_14 (c_X1_kindAt h0 htr ht (by omega) (by omega)) ht.1 ⟨Nat.le_of_ble_eq_true rfl, Nat.le_of_ble_eq_true rfl, Nat.le_of_ble_eq_true rfl, Nat.le_of_ble_eq_true rfl⟩ rfl rfl (Nat.le_of_ble_eq_true rfl) (fun v9 w9 hR => ?_)
        obtain ⟨rfl, e9⟩ := hR
        refine x_ew e9 ?_
        simp only [Option.toList_some, Option.toList_none, List.cons_append, List.nil_append]
        refine x_iload_n Z dX1_placesOfKind_17 rfl rfl ?_
        refine x_icmp_ne Z 27 dX1_placesOfKind_18 (by decide) ⟨by omega, by omega⟩ ⟨by omega, by omega⟩ (fun c18 => ?_) (fun c18 => ?_)
        ·
          refine x_iinc (L' := [(3, _), (2, _), (0, _), (1, _)]) Z dX1_placesOfKind_27 rfl (Nat.le_of_ble_eq_true rfl) rfl ?_
          refine x_goto Z 4 dX1_placesOfKind_30 (by decide) ?_
          exact ih4 (i + 1) _ (by omega) ⟨by omega, by omega, by rw [← hif, forI_s (i := i) (by omega)]; first | rw [mstep_t (P := fun j => decide (kin (C j) = q)) (by first | exact decide_eq_true c18 | exact decide_eq_false c18)] | rw [mstep_f (P := fun j => decide (kin (C j) = q)) (by first | exact decide_eq_true c18 | exact decide_eq_false c18)]⟩
        ·
          refine x_iload_n Z dX1_placesOfKind_21 rfl rfl ?_
          refine x_iconst Z dX1_placesOfKind_22 ?_
          refine x_iload_n Z dX1_placesOfKind_23 rfl rfl ?_
          refine x_ishl Z dX1_placesOfKind_24 ?_
          refine x_ior Z dX1_placesOfKind_25 ?_
          refine x_istore_n (L' := [(2, _), (3, _), (0, _), (1, _)]) Z dX1_placesOfKind_26 rfl (Nat.le_of_ble_eq_true rfl) rfl ?_
          refine x_iinc (L' := [(3, _), (2, _), (0, _), (1, _)]) Z dX1_placesOfKind_27 rfl (Nat.le_of_ble_eq_true rfl) rfl ?_
          refine x_goto Z 4 dX1_placesOfKind_30 (by decide) ?_
          exact ih4 (i + 1) _ (by omega) ⟨by omega, by omega, by rw [← hif, forI_s (i := i) (by omega)]; first | rw [mstep_t (P := fun j => decide (kin (C j) = q)) (by first | exact decide_eq_true c18 | exact decide_eq_false c18)] | rw [mstep_f (P := fun j => decide (kin (C j) = q)) (by first | exact decide_eq_true c18 | exact decide_eq_false c18)]⟩
  exact loop4 (n.toNat + 1) 0 0 (by omega) ⟨by omega, by omega, rfl⟩
abbrev rmc_X1_longestAt : Room := { frames := 3, cells := 0, slots := 0, locals := 64 }
set_option maxRecDepth 100000 in
theorem c_X1_longestAt {l : Launch} {s0 : State} {G : gK} {w : wd} (h0 : gS0 s0) (htr : l.stackTraces = false) {a r bb : Nat} {n : Int} {C B : Int → Int} {p : Int} (ht : tX G w a r bb n C B) (h1 : 0 ≤ p) (h2 : p < n) : gM l s0 G yX1_longestAt [Cond.code yX1_longestAt cX1_longestAt 4 (some .int)] rmc_X1_longestAt [rv a, iv p] w (fun v w' => v = some (iv (lon n C p)) ∧ w' = w) (noX) := by
  refine g_of h0 htr (by decide +kernel) (Nat.le_of_ble_eq_true rfl) ?_
  intro b Z0 E
  have Z : gAm b l s0 G cX1_longestAt RX1 4 rmc_X1_longestAt := Z0
  refine x_el (L' := [(0, rv a), (1, iv p)]) rfl ?_
  obtain ⟨ha, hr, hb, hn0, hn30, hC⟩ := id ht
  have hCp := hC (p)
  have hsb := sb_in (C p)
  have hot := oth_in hsb.1 hsb.2
  refine x_aload_n Z dX1_longestAt_0 rfl rfl ?_
  refine x_iload_n Z dX1_longestAt_1 rfl rfl ?_
  refine x_callV (ci := 2) (C := RX1) (T := TX1) (N := 3) Z okX1_signAt q125 q126 q127 rfl dX1_longestAt_2 (c_X1_signAt h0 htr ht (by omega) (by omega)) ht.1 ⟨Nat.le_of_ble_eq_true rfl, Nat.le_of_ble_eq_true rfl, Nat.le_of_ble_eq_true rfl, Nat.le_of_ble_eq_true rfl⟩ rfl rfl (Nat.le_of_ble_eq_true rfl) (fun v9 w9 hR => ?_)
  obtain ⟨rfl, e9⟩ := hR
  refine x_ew e9 ?_
  simp only [Option.toList_some, Option.toList_none, List.cons_append, List.nil_append]
  refine x_callS Z okX0_sortBegunBy q129 q130 dX1_longestAt_5 (c_X0_sortBegunBy h0 htr (by omega) (by omega)) ⟨Nat.le_of_ble_eq_true rfl, Nat.le_of_ble_eq_true rfl, Nat.le_of_ble_eq_true rfl, Nat.le_of_ble_eq_true rfl⟩ rfl rfl (Nat.le_of_ble_eq_true rfl) (fun v9 w9 hR => ?_)
  obtain ⟨rfl, e9⟩ := hR
  refine x_ew e9 ?_
  simp only [Option.toList_some, Option.toList_none, List.cons_append, List.nil_append]
  refine x_callS Z okX0_questionOfOthers q145 q146 dX1_longestAt_8 (c_X0_questionOfOthers h0 htr (by omega) (by omega)) ⟨Nat.le_of_ble_eq_true rfl, Nat.le_of_ble_eq_true rfl, Nat.le_of_ble_eq_true rfl, Nat.le_of_ble_eq_true rfl⟩ rfl rfl (Nat.le_of_ble_eq_true rfl) (fun v9 w9 hR => ?_)
  obtain ⟨rfl, e9⟩ := hR
  refine x_ew e9 ?_
  simp only [Option.toList_some, Option.toList_none, List.cons_append, List.nil_append]
  refine x_istore_n (L' := [(2, _), (0, _), (1, _)]) Z dX1_longestAt_11 rfl (Nat.le_of_ble_eq_true rfl) rfl ?_
  refine x_iload_n Z dX1_longestAt_12 rfl rfl ?_
  refine x_iconst Z dX1_longestAt_13 ?_
  refine x_iadd Z dX1_longestAt_14 ?_
  refine x_istore_n (L' := [(3, _), (2, _), (0, _), (1, _)]) Z dX1_longestAt_15 rfl (Nat.le_of_ble_eq_true rfl) rfl ?_
  have loop16 : ∀ (fu : Nat) (e : Int), n - e < (fu : Int) → (p + 1 ≤ e ∧ e ≤ n ∧ findI (fun e => !so (C e) (oth (sb (C p)))) e n = findI (fun e => !so (C e) (oth (sb (C p)))) (p + 1) n) → gX b s0 G (0) (0) 16 [(3, iv e), (2, iv (oth (sb (C p)))), (0, rv a), (1, iv p)] [] (w) := by
    intro fu; induction fu with
    | zero => intro e hm hv; exact absurd hm (by omega)
    | succ fu ih16 =>
      intro e hm hv
      obtain ⟨hi0, hin, hif⟩ := hv
      have hCe := hC e
      refine x_iload_n Z dX1_longestAt_16 rfl rfl ?_
      refine x_aload_n Z dX1_longestAt_17 rfl rfl ?_
      refine x_getf (ci := 2) (j := 1) (C := RX1) (T := TX1) (N := 3) Z inX1g rfl (by decide) q73 rfl dX1_longestAt_18 (by assumption) rfl ?_
      refine x_icmp_ge Z 42 dX1_longestAt_21 (by decide) ⟨by omega, by omega⟩ ⟨by omega, by omega⟩ (fun c21 => ?_) (fun c21 => ?_)
      ·
        refine x_iload_n Z dX1_longestAt_42 rfl rfl ?_
        refine x_iload_n Z dX1_longestAt_43 rfl rfl ?_
        refine x_isub Z dX1_longestAt_44 ?_
        exact x_iret Z E (⟨by unfold lon; rw [← hif]; first | rw [findI_e (by omega)] | rw [findI_h (by show (!so (C e) (oth (sb (C p)))) = true; rw [c33]; rfl)], rfl⟩) dX1_longestAt_45 (Nat.le_of_ble_eq_true rfl) (Nat.le_of_ble_eq_true rfl)
      ·
        refine x_aload_n Z dX1_longestAt_24 rfl rfl ?_
        refine x_iload_n Z dX1_longestAt_25 rfl rfl ?_
        refine x_callV (ci := 2) (C := RX1) (T := TX1) (N := 3) Z okX1_signAt q125 q126 q127 rfl dX1_longestAt_26 (c_X1_signAt h0 htr ht (by omega) (by omega)) ht.1 ⟨Nat.le_of_ble_eq_true rfl, Nat.le_of_ble_eq_true rfl, Nat.le_of_ble_eq_true rfl, Nat.le_of_ble_eq_true rfl⟩ rfl rfl (Nat.le_of_ble_eq_true rfl) (fun v9 w9 hR => ?_)
        obtain ⟨rfl, e9⟩ := hR
        refine x_ew e9 ?_
        simp only [Option.toList_some, Option.toList_none, List.cons_append, List.nil_append]
        refine x_iload_n Z dX1_longestAt_29 rfl rfl ?_
        refine x_callS Z okX0_isSo q150 q135 dX1_longestAt_30 (c_X0_isSo h0 htr (by omega) (by omega) (by omega) (by omega)) ⟨Nat.le_of_ble_eq_true rfl, Nat.le_of_ble_eq_true rfl, Nat.le_of_ble_eq_true rfl, Nat.le_of_ble_eq_true rfl⟩ rfl rfl (Nat.le_of_ble_eq_true rfl) (fun v9 w9 hR => ?_)
        obtain ⟨rfl, e9⟩ := hR
        refine x_ew e9 ?_
        simp only [Option.toList_some, Option.toList_none, List.cons_append, List.nil_append]
        refine x_ifb_eq Z 42 dX1_longestAt_33 (by decide) (fun c33 => ?_) (fun c33 => ?_)
        ·
          refine x_iload_n Z dX1_longestAt_42 rfl rfl ?_
          refine x_iload_n Z dX1_longestAt_43 rfl rfl ?_
          refine x_isub Z dX1_longestAt_44 ?_
          exact x_iret Z E (⟨by unfold lon; rw [← hif]; first | rw [findI_e (by omega)] | rw [findI_h (by show (!so (C e) (oth (sb (C p)))) = true; rw [c33]; rfl)], rfl⟩) dX1_longestAt_45 (Nat.le_of_ble_eq_true rfl) (Nat.le_of_ble_eq_true rfl)
        ·
          refine x_iinc (L' := [(3, _), (2, _), (0, _), (1, _)]) Z dX1_longestAt_36 rfl (Nat.le_of_ble_eq_true rfl) rfl ?_
          refine x_goto Z 16 dX1_longestAt_39 (by decide) ?_
          exact ih16 (e + 1) (by omega) ⟨by omega, by omega, by rw [← hif]; exact (findI_m (by omega) (by show (!so (C e) (oth (sb (C p)))) = false; rw [c33]; rfl)).symm⟩
  exact loop16 (n.toNat + 1) (p + 1) (by omega) ⟨by omega, by omega, rfl⟩
abbrev rmc_X1_sortOf : Room := { frames := 4, cells := 0, slots := 0, locals := 87 }
set_option maxRecDepth 100000 in
theorem c_X1_sortOf {l : Launch} {s0 : State} {G : gK} {w : wd} (h0 : gS0 s0) (htr : l.stackTraces = false) {a r bb : Nat} {n : Int} {C B : Int → Int} {p e : Int} (ht : tX G w a r bb n C B) (h1 : 0 ≤ p) (h2 : p < e) (h3 : e ≤ n) : gM l s0 G yX1_sortOf [Cond.code yX1_sortOf cX1_sortOf 3 (some .int)] rmc_X1_sortOf [rv a, iv p, iv e] w (fun v w' => v = some (iv (if e - p ≤ lon n C p then sb (C p) else -1)) ∧ w' = w) (noX) := by
  refine g_of h0 htr (by decide +kernel) (Nat.le_of_ble_eq_true rfl) ?_
  intro b Z0 E
  have Z : gAm b l s0 G cX1_sortOf RX1 3 rmc_X1_sortOf := Z0
  refine x_el (L' := [(0, rv a), (1, iv p), (2, iv e)]) rfl ?_
  obtain ⟨ha, hr, hb, hn0, hn30, hC⟩ := id ht
  have hCp := hC (p)
  have hlo := lon_in (n := n) (C := C) (p := p) (by omega)
  refine x_iload_n Z dX1_sortOf_0 rfl rfl ?_
  refine x_iload_n Z dX1_sortOf_1 rfl rfl ?_
  refine x_isub Z dX1_sortOf_2 ?_
  refine x_aload_n Z dX1_sortOf_3 rfl rfl ?_
  refine x_iload_n Z dX1_sortOf_4 rfl rfl ?_
  refine x_callV (ci := 2) (C := RX1) (T := TX1) (N := 3) Z okX1_longestAt q121 q122 q123 rfl dX1_sortOf_5 (c_X1_longestAt h0 htr ht (by omega) (by omega)) ht.1 ⟨Nat.le_of_ble_eq_true rfl, Nat.le_of_ble_eq_true rfl, Nat.le_of_ble_eq_true rfl, Nat.le_of_ble_eq_true rfl⟩ rfl rfl (Nat.le_of_ble_eq_true rfl) (fun v9 w9 hR => ?_)
  obtain ⟨rfl, e9⟩ := hR
  refine x_ew e9 ?_
  simp only [Option.toList_some, Option.toList_none, List.cons_append, List.nil_append]
  refine x_icmp_gt Z 22 dX1_sortOf_8 (by decide) ⟨by omega, by omega⟩ ⟨by omega, by omega⟩ (fun c8 => ?_) (fun c8 => ?_)
  ·
    refine x_iconst Z dX1_sortOf_22 ?_
    exact x_iret Z E (⟨by first | rw [if_pos (by omega)] | rw [if_neg (by omega)], rfl⟩) dX1_sortOf_23 (Nat.le_of_ble_eq_true rfl) (Nat.le_of_ble_eq_true rfl)
  ·
    refine x_aload_n Z dX1_sortOf_11 rfl rfl ?_
    refine x_iload_n Z dX1_sortOf_12 rfl rfl ?_
    refine x_callV (ci := 2) (C := RX1) (T := TX1) (N := 3) Z okX1_signAt q125 q126 q127 rfl dX1_sortOf_13 (c_X1_signAt h0 htr ht (by omega) (by omega)) ht.1 ⟨Nat.le_of_ble_eq_true rfl, Nat.le_of_ble_eq_true rfl, Nat.le_of_ble_eq_true rfl, Nat.le_of_ble_eq_true rfl⟩ rfl rfl (Nat.le_of_ble_eq_true rfl) (fun v9 w9 hR => ?_)
    obtain ⟨rfl, e9⟩ := hR
    refine x_ew e9 ?_
    simp only [Option.toList_some, Option.toList_none, List.cons_append, List.nil_append]
    refine x_callS Z okX0_sortBegunBy q129 q130 dX1_sortOf_16 (c_X0_sortBegunBy h0 htr (by omega) (by omega)) ⟨Nat.le_of_ble_eq_true rfl, Nat.le_of_ble_eq_true rfl, Nat.le_of_ble_eq_true rfl, Nat.le_of_ble_eq_true rfl⟩ rfl rfl (Nat.le_of_ble_eq_true rfl) (fun v9 w9 hR => ?_)
    obtain ⟨rfl, e9⟩ := hR
    refine x_ew e9 ?_
    simp only [Option.toList_some, Option.toList_none, List.cons_append, List.nil_append]
    refine x_goto Z 23 dX1_sortOf_19 (by decide) ?_
    exact x_iret Z E (⟨by first | rw [if_pos (by omega)] | rw [if_neg (by omega)], rfl⟩) dX1_sortOf_23 (Nat.le_of_ble_eq_true rfl) (Nat.le_of_ble_eq_true rfl)
abbrev rmc_X1_isNamed : Room := { frames := 4, cells := 0, slots := 0, locals := 87 }
set_option maxRecDepth 100000 in
theorem c_X1_isNamed {l : Launch} {s0 : State} {G : gK} {w : wd} (h0 : gS0 s0) (htr : l.stackTraces = false) {a r bb : Nat} {n : Int} {C B : Int → Int} (ht : tX G w a r bb n C B) : gM l s0 G yX1_isNamed [Cond.code yX1_isNamed cX1_isNamed 1 (some .boolean)] rmc_X1_isNamed [rv a] w (fun v w' => v = some (iv (b2 (decide (0 < n ∧ sb (C 0) = 0 ∧ lon n C 0 = n)))) ∧ w' = w) (noX) := by
  refine g_of h0 htr (by decide +kernel) (Nat.le_of_ble_eq_true rfl) ?_
  intro b Z0 E
  have Z : gAm b l s0 G cX1_isNamed RX1 1 rmc_X1_isNamed := Z0
  refine x_el (L' := [(0, rv a)]) rfl ?_
  obtain ⟨ha, hr, hb, hn0, hn30, hC⟩ := id ht
  have hCp := hC (0)
  have hsb := sb_in (C 0)
  refine x_aload_n Z dX1_isNamed_0 rfl rfl ?_
  refine x_getf (ci := 2) (j := 1) (C := RX1) (T := TX1) (N := 3) Z inX1g rfl (by decide) q73 rfl dX1_isNamed_1 (by assumption) rfl ?_
  refine x_if_le Z 34 dX1_isNamed_4 (by decide) ⟨by omega, by omega⟩ (fun c4 => ?_) (fun c4 => ?_)
  ·
    refine x_ib false Z dX1_isNamed_34 (by decide) ?_
    exact x_zret Z E (⟨by first | (rw [show decide (0 < n ∧ sb (C 0) = 0 ∧ lon n C 0 = n) = true from decide_eq_true (by omega)]; done) | (rw [show decide (0 < n ∧ sb (C 0) = 0 ∧ lon n C 0 = n) = false from decide_eq_false (by omega)]; done), rfl⟩) dX1_isNamed_35 (Nat.le_of_ble_eq_true rfl) (Nat.le_of_ble_eq_true rfl)
  ·
    refine x_aload_n Z dX1_isNamed_7 rfl rfl ?_
    refine x_iconst Z dX1_isNamed_8 ?_
    refine x_callV (ci := 2) (C := RX1) (T := TX1) (N := 3) Z okX1_signAt q125 q126 q127 rfl dX1_isNamed_9 (c_X1_signAt h0 htr ht (by omega) (by omega)) ht.1 ⟨Nat.le_of_ble_eq_true rfl, Nat.le_of_ble_eq_true rfl, Nat.le_of_ble_eq_true rfl, Nat.le_of_ble_eq_true rfl⟩ rfl rfl (Nat.le_of_ble_eq_true rfl) (fun v9 w9 hR => ?_)
    obtain ⟨rfl, e9⟩ := hR
    refine x_ew e9 ?_
    simp only [Option.toList_some, Option.toList_none, List.cons_append, List.nil_append]
    refine x_callS Z okX0_sortBegunBy q129 q130 dX1_isNamed_12 (c_X0_sortBegunBy h0 htr (by omega) (by omega)) ⟨Nat.le_of_ble_eq_true rfl, Nat.le_of_ble_eq_true rfl, Nat.le_of_ble_eq_true rfl, Nat.le_of_ble_eq_true rfl⟩ rfl rfl (Nat.le_of_ble_eq_true rfl) (fun v9 w9 hR => ?_)
    obtain ⟨rfl, e9⟩ := hR
    refine x_ew e9 ?_
    simp only [Option.toList_some, Option.toList_none, List.cons_append, List.nil_append]
    refine x_if_ne Z 34 dX1_isNamed_15 (by decide) ⟨by omega, by omega⟩ (fun c15 => ?_) (fun c15 => ?_)
    ·
      refine x_ib false Z dX1_isNamed_34 (by decide) ?_
      exact x_zret Z E (⟨by first | (rw [show decide (0 < n ∧ sb (C 0) = 0 ∧ lon n C 0 = n) = true from decide_eq_true (by omega)]; done) | (rw [show decide (0 < n ∧ sb (C 0) = 0 ∧ lon n C 0 = n) = false from decide_eq_false (by omega)]; done), rfl⟩) dX1_isNamed_35 (Nat.le_of_ble_eq_true rfl) (Nat.le_of_ble_eq_true rfl)
    ·
      refine x_aload_n Z dX1_isNamed_18 rfl rfl ?_
      refine x_iconst Z dX1_isNamed_19 ?_
      have hlo := lon_in (n := n) (C := C) (p := 0) (by omega)
      refine x_callV (ci := 2) (C := RX1) (T := TX1) (N := 3) Z okX1_longestAt q121 q122 q123 rfl dX1_isNamed_20 (c_X1_longestAt h0 htr ht (by omega) (by omega)) ht.1 ⟨Nat.le_of_ble_eq_true rfl, Nat.le_of_ble_eq_true rfl, Nat.le_of_ble_eq_true rfl, Nat.le_of_ble_eq_true rfl⟩ rfl rfl (Nat.le_of_ble_eq_true rfl) (fun v9 w9 hR => ?_)
      obtain ⟨rfl, e9⟩ := hR
      refine x_ew e9 ?_
      simp only [Option.toList_some, Option.toList_none, List.cons_append, List.nil_append]
      refine x_aload_n Z dX1_isNamed_23 rfl rfl ?_
      refine x_getf (ci := 2) (j := 1) (C := RX1) (T := TX1) (N := 3) Z inX1g rfl (by decide) q73 rfl dX1_isNamed_24 (by assumption) rfl ?_
      refine x_icmp_ne Z 34 dX1_isNamed_27 (by decide) ⟨by omega, by omega⟩ ⟨by omega, by omega⟩ (fun c27 => ?_) (fun c27 => ?_)
      ·
        refine x_ib false Z dX1_isNamed_34 (by decide) ?_
        exact x_zret Z E (⟨by first | (rw [show decide (0 < n ∧ sb (C 0) = 0 ∧ lon n C 0 = n) = true from decide_eq_true (by omega)]; done) | (rw [show decide (0 < n ∧ sb (C 0) = 0 ∧ lon n C 0 = n) = false from decide_eq_false (by omega)]; done), rfl⟩) dX1_isNamed_35 (Nat.le_of_ble_eq_true rfl) (Nat.le_of_ble_eq_true rfl)
      ·
        refine x_ib true Z dX1_isNamed_30 (by decide) ?_
        refine x_goto Z 35 dX1_isNamed_31 (by decide) ?_
        exact x_zret Z E (⟨by first | (rw [show decide (0 < n ∧ sb (C 0) = 0 ∧ lon n C 0 = n) = true from decide_eq_true (by omega)]; done) | (rw [show decide (0 < n ∧ sb (C 0) = 0 ∧ lon n C 0 = n) = false from decide_eq_false (by omega)]; done), rfl⟩) dX1_isNamed_35 (Nat.le_of_ble_eq_true rfl) (Nat.le_of_ble_eq_true rfl)
abbrev rmc_X1_firstFault : Room := { frames := 3, cells := 0, slots := 0, locals := 64 }
set_option maxRecDepth 100000 in
theorem c_X1_firstFault {l : Launch} {s0 : State} {G : gK} {w : wd} (h0 : gS0 s0) (htr : l.stackTraces = false) {a r bb : Nat} {n : Int} {C B : Int → Int} (ht : tX G w a r bb n C B) : gM l s0 G yX1_firstFault [Cond.code yX1_firstFault cX1_firstFault 2 (some .int)] rmc_X1_firstFault [rv a] w (fun v w' => v = some (iv (if findI (fun j => !so (C j) (cond (decide (j = 0)) 11 12)) 0 n < n then findI (fun j => !so (C j) (cond (decide (j = 0)) 11 12)) 0 n else if n = 0 then 0 else -1)) ∧ w' = w) (noX) := by
  refine g_of h0 htr (by decide +kernel) (Nat.le_of_ble_eq_true rfl) ?_
  intro b Z0 E
  have Z : gAm b l s0 G cX1_firstFault RX1 2 rmc_X1_firstFault := Z0
  refine x_el (L' := [(0, rv a)]) rfl ?_
  obtain ⟨ha, hr, hb, hn0, hn30, hC⟩ := id ht
  refine x_iconst Z dX1_firstFault_0 ?_
  refine x_istore_n (L' := [(1, _), (0, _)]) Z dX1_firstFault_1 rfl (Nat.le_of_ble_eq_true rfl) rfl ?_
  have loop2 : ∀ (fu : Nat) (i : Int), n - i < (fu : Int) → (0 ≤ i ∧ i ≤ n ∧ findI (fun j => !so (C j) (cond (decide (j = 0)) 11 12)) i n = findI (fun j => !so (C j) (cond (decide (j = 0)) 11 12)) 0 n) → gX b s0 G (0) (0) 2 [(1, iv i), (0, rv a)] [] (w) := by
    intro fu; induction fu with
    | zero => intro i hm hv; exact absurd hm (by omega)
    | succ fu ih2 =>
      intro i hm hv
      obtain ⟨hi0, hin, hif⟩ := hv
      have hCe := hC i
      refine x_iload_n Z dX1_firstFault_2 rfl rfl ?_
      refine x_aload_n Z dX1_firstFault_3 rfl rfl ?_
      refine x_getf (ci := 2) (j := 1) (C := RX1) (T := TX1) (N := 3) Z inX1g rfl (by decide) q73 rfl dX1_firstFault_4 (by assumption) rfl ?_
      refine x_icmp_ge Z 38 dX1_firstFault_7 (by decide) ⟨by omega, by omega⟩ ⟨by omega, by omega⟩ (fun c7 => ?_) (fun c7 => ?_)
      ·
        refine x_aload_n Z dX1_firstFault_38 rfl rfl ?_
        refine x_getf (ci := 2) (j := 1) (C := RX1) (T := TX1) (N := 3) Z inX1g rfl (by decide) q73 rfl dX1_firstFault_39 (by assumption) rfl ?_
        refine x_if_ne Z 49 dX1_firstFault_42 (by decide) ⟨by omega, by omega⟩ (fun c42 => ?_) (fun c42 => ?_)
        ·
          refine x_iconst Z dX1_firstFault_49 ?_
          exact x_iret Z E (⟨by rw [← hif, findI_e (by omega), if_neg (by omega)]; first | rw [if_pos (by omega)] | rw [if_neg (by omega)], rfl⟩) dX1_firstFault_50 (Nat.le_of_ble_eq_true rfl) (Nat.le_of_ble_eq_true rfl)
        ·
          refine x_iconst Z dX1_firstFault_45 ?_
          refine x_goto Z 50 dX1_firstFault_46 (by decide) ?_
          exact x_iret Z E (⟨by rw [← hif, findI_e (by omega), if_neg (by omega)]; first | rw [if_pos (by omega)] | rw [if_neg (by omega)], rfl⟩) dX1_firstFault_50 (Nat.le_of_ble_eq_true rfl) (Nat.le_of_ble_eq_true rfl)
      ·
        refine x_aload_n Z dX1_firstFault_10 rfl rfl ?_
        refine x_iload_n Z dX1_firstFault_11 rfl rfl ?_
        refine x_callV (ci := 2) (C := RX1) (T := TX1) (N := 3) Z okX1_signAt q125 q126 q127 rfl dX1_firstFault_12 (c_X1_signAt h0 htr ht (by omega) (by omega)) ht.1 ⟨Nat.le_of_ble_eq_true rfl, Nat.le_of_ble_eq_true rfl, Nat.le_of_ble_eq_true rfl, Nat.le_of_ble_eq_true rfl⟩ rfl rfl (Nat.le_of_ble_eq_true rfl) (fun v9 w9 hR => ?_)
        obtain ⟨rfl, e9⟩ := hR
        refine x_ew e9 ?_
        simp only [Option.toList_some, Option.toList_none, List.cons_append, List.nil_append]
        refine x_iload_n Z dX1_firstFault_15 rfl rfl ?_
        refine x_if_ne Z 23 dX1_firstFault_16 (by decide) ⟨by omega, by omega⟩ (fun c16 => ?_) (fun c16 => ?_)
        ·
          refine x_ib false Z dX1_firstFault_23 (by decide) ?_
          refine x_callS Z okX0_isLet q184 q185 dX1_firstFault_24 (c_X0_isLet h0 htr (by omega) (by omega)) ⟨Nat.le_of_ble_eq_true rfl, Nat.le_of_ble_eq_true rfl, Nat.le_of_ble_eq_true rfl, Nat.le_of_ble_eq_true rfl⟩ rfl rfl (Nat.le_of_ble_eq_true rfl) (fun v9 w9 hR => ?_)
          obtain ⟨rfl, e9⟩ := hR
          refine x_ew e9 ?_
          simp only [Option.toList_some, Option.toList_none, List.cons_append, List.nil_append]
          refine x_ifb_ne Z 32 dX1_firstFault_27 (by decide) (fun c27 => ?_) (fun c27 => ?_)
          ·
            refine x_iinc (L' := [(1, _), (0, _)]) Z dX1_firstFault_32 rfl (Nat.le_of_ble_eq_true rfl) rfl ?_
            refine x_goto Z 2 dX1_firstFault_35 (by decide) ?_
            exact ih2 (i + 1) (by omega) ⟨by omega, by omega, by rw [← hif]; exact (findI_m (by omega) (by show (!so (C i) (cond (decide (i = 0)) 11 12)) = false; first | rw [decide_eq_true c16, c27]; rfl | rw [decide_eq_false c16, c27]; rfl)).symm⟩
          ·
            refine x_iload_n Z dX1_firstFault_30 rfl rfl ?_
            exact x_iret Z E (⟨by have hh : findI (fun j => !so (C j) (cond (decide (j = 0)) 11 12)) 0 n = i := by { rw [← hif]; exact findI_h (by show (!so (C i) (cond (decide (i = 0)) 11 12)) = true; first | rw [decide_eq_true c16, c27]; rfl | rw [decide_eq_false c16, c27]; rfl) }; rw [hh, if_pos (by omega)], rfl⟩) dX1_firstFault_31 (Nat.le_of_ble_eq_true rfl) (Nat.le_of_ble_eq_true rfl)
        ·
          refine x_ib true Z dX1_firstFault_19 (by decide) ?_
          refine x_goto Z 24 dX1_firstFault_20 (by decide) ?_
          refine x_callS Z okX0_isLet q184 q185 dX1_firstFault_24 (c_X0_isLet h0 htr (by omega) (by omega)) ⟨Nat.le_of_ble_eq_true rfl, Nat.le_of_ble_eq_true rfl, Nat.le_of_ble_eq_true rfl, Nat.le_of_ble_eq_true rfl⟩ rfl rfl (Nat.le_of_ble_eq_true rfl) (fun v9 w9 hR => ?_)
          obtain ⟨rfl, e9⟩ := hR
          refine x_ew e9 ?_
          simp only [Option.toList_some, Option.toList_none, List.cons_append, List.nil_append]
          refine x_ifb_ne Z 32 dX1_firstFault_27 (by decide) (fun c27 => ?_) (fun c27 => ?_)
          ·
            refine x_iinc (L' := [(1, _), (0, _)]) Z dX1_firstFault_32 rfl (Nat.le_of_ble_eq_true rfl) rfl ?_
            refine x_goto Z 2 dX1_firstFault_35 (by decide) ?_
            exact ih2 (i + 1) (by omega) ⟨by omega, by omega, by rw [← hif]; exact (findI_m (by omega) (by show (!so (C i) (cond (decide (i = 0)) 11 12)) = false; first | rw [decide_eq_true c16, c27]; rfl | rw [decide_eq_false c16, c27]; rfl)).symm⟩
          ·
            refine x_iload_n Z dX1_firstFault_30 rfl rfl ?_
            exact x_iret Z E (⟨by have hh : findI (fun j => !so (C j) (cond (decide (j = 0)) 11 12)) 0 n = i := by { rw [← hif]; exact findI_h (by show (!so (C i) (cond (decide (i = 0)) 11 12)) = true; first | rw [decide_eq_true c16, c27]; rfl | rw [decide_eq_false c16, c27]; rfl) }; rw [hh, if_pos (by omega)], rfl⟩) dX1_firstFault_31 (Nat.le_of_ble_eq_true rfl) (Nat.le_of_ble_eq_true rfl)
  exact loop2 (n.toNat + 1) 0 (by omega) ⟨by omega, by omega, rfl⟩
