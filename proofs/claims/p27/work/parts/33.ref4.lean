/-! ref4: walks, by program -/
theorem q20 : Cond.selects RX4 yX4_longestOf yX4_longestOf ∈ gT := gt_s 20 rfl rfl
theorem q1175 : Cond.methodLink RX4 61 yX4_longestOf ∈ gT := gt_5 180 rfl rfl
theorem q1177 : Cond.instanceMethod yX4_longestOf ∈ gT := gt_5 182 rfl rfl
theorem q1178 : Cond.code yX4_longestOf cX4_longestOf 4 (some .int) ∈ gT := gt_5 183 rfl rfl
theorem q1361 : Cond.methodLink RX4 65 yJ9_min_7cf53 ∈ gT := gt_6 126 rfl rfl
theorem okX4_longestOf : gOk yX4_longestOf cX4_longestOf 4 (some .int) 2 := ⟨q1178, q38, ⟨by decide +kernel, by decide +kernel⟩, by decide +kernel⟩
theorem thr3 {c1 c2 : Bool} {P1 P2 Q : Prop} (h : (c1 || c2) = true) (h1 : c1 = true ↔ ¬ P1) (h2 : P1 → (c2 = true ↔ ¬ P2)) : (th2 c1 c2 = 1 ∧ ¬ P1) ∨ (th2 c1 c2 = 2 ∧ P1 ∧ ¬ P2) ∨ Q := by
  cases c1 with
  | true => exact Or.inl ⟨rfl, h1.mp rfl⟩
  | false =>
    have p1 := bq_n h1 rfl
    cases c2 with
    | true => exact Or.inr (Or.inl ⟨rfl, p1, (h2 p1).mp rfl⟩)
    | false => cases h
theorem thr2 {c1 c2 : Bool} {P1 P2 Q : Prop} (h : (c1 || c2) = true) (h1 : c1 = true ↔ ¬ P1) (h2 : c2 = true ↔ ¬ P2) : (th2 c1 c2 = 1 ∧ ¬ P1) ∨ (th2 c1 c2 = 2 ∧ P1 ∧ ¬ P2) ∨ Q := by
  cases c1 with
  | true => exact Or.inl ⟨rfl, h1.mp rfl⟩
  | false =>
    cases c2 with
    | true => exact Or.inr (Or.inl ⟨rfl, bq_n h1 rfl, h2.mp rfl⟩)
    | false => cases h
abbrev rmc_X4_begin : Room := { frames := 6, cells := 0, slots := 0, locals := 137 }
set_option maxRecDepth 100000 in
theorem c_X4_begin {l : Launch} {s0 : State} {G : gK} {w : wd} (h0 : gS0 s0) (htr : l.stackTraces = false) {R : rA} {S : rM} {t : Int} {m : Int} (hS : rS G w R S) (t0 : 0 ≤ t) (t3 : t < 3) (h1 : 0 ≤ m) (h2 : inr m) : gM l s0 G yX4_begin [Cond.code yX4_begin cX4_begin 5 (some .int)] rmc_X4_begin [rv R.1, iv t, iv m] w (fun v w' => v = some (iv (pbg (S.2.1 t) (S.2.2.1 t) m)) ∧ w' = w) (noX) := by
  refine g_of h0 htr (by decide +kernel) (Nat.le_of_ble_eq_true rfl) ?_
  intro b Z0 E
  have Z : gAm b l s0 G cX4_begin RX4 5 rmc_X4_begin := Z0
  refine x_el (L' := [(0, rv R.1), (1, iv t), (2, iv m)]) rfl ?_
  obtain ⟨hr1, hr2, ⟨f3, hr3, hf3⟩, hr4, hr5, hr6⟩ := id hS
  obtain ⟨hrt, hn0, hn30, hC⟩ := hr5 t (by omega) (by omega)
  refine x_iconst Z dX4_begin_0 ?_
  refine x_istore_n (L' := [(3, _), (0, _), (1, _), (2, _)]) Z dX4_begin_1 rfl (Nat.le_of_ble_eq_true rfl) rfl ?_
  refine x_iconst Z dX4_begin_2 ?_
  refine x_istore (L' := [(4, _), (3, _), (0, _), (1, _), (2, _)]) Z dX4_begin_3 (Nat.le_of_ble_eq_true rfl) rfl ?_
  have loop5 : ∀ (fu : Nat) (i p : Int), (S.2.1 t) - p < (fu : Int) → (0 ≤ i ∧ i ≤ m ∧ 0 ≤ p ∧ p ≤ (S.2.1 t) ∧ p = plc (S.2.1 t) (S.2.2.1 t) i.toNat) → gX b s0 G (0) (0) 5 [(4, iv i), (3, iv p), (0, rv R.1), (1, iv t), (2, iv m)] [] (w) := by
    intro fu; induction fu with
    | zero => intro i p hm hv; exact absurd hm (by omega)
    | succ fu ih5 =>
      intro i p hm hv
      obtain ⟨hi0, him, hp0, hpn, hif⟩ := hv
      refine x_iload Z dX4_begin_5 rfl ?_
      refine x_iload_n Z dX4_begin_7 rfl rfl ?_
      refine x_icmp_ge Z 36 dX4_begin_8 (by decide) ⟨by omega, by omega⟩ ⟨by omega, by omega⟩ (fun c8 => ?_) (fun c8 => ?_)
      ·
        refine x_iload_n Z dX4_begin_36 rfl rfl ?_
        refine x_aload_n Z dX4_begin_37 rfl rfl ?_
        refine x_getf (ci := 5) (j := 2) (C := RX4) (T := TX4) (N := 7) Z inX4g rfl (by decide) q1043 rfl dX4_begin_38 (by assumption) rfl ?_
        refine x_iload_n Z dX4_begin_41 rfl rfl ?_
        refine x_iald Z dX4_begin_42 (by assumption) (by omega) (by omega) (by omega) ?_
        refine x_icmp_ge Z 50 dX4_begin_43 (by decide) ⟨by omega, by omega⟩ ⟨by omega, by omega⟩ (fun c43 => ?_) (fun c43 => ?_)
        ·
          refine x_iconst Z dX4_begin_50 ?_
          exact x_iret Z E (⟨by first | (rw [pbg_t (plc_e (by omega) hif (by omega)) (by omega)]; done) | (rw [pbg_f (plc_e (by omega) hif (by omega)) (by omega)]; done), rfl⟩) dX4_begin_51 (Nat.le_of_ble_eq_true rfl) (Nat.le_of_ble_eq_true rfl)
        ·
          refine x_iload_n Z dX4_begin_46 rfl rfl ?_
          refine x_goto Z 51 dX4_begin_47 (by decide) ?_
          exact x_iret Z E (⟨by first | (rw [pbg_t (plc_e (by omega) hif (by omega)) (by omega)]; done) | (rw [pbg_f (plc_e (by omega) hif (by omega)) (by omega)]; done), rfl⟩) dX4_begin_51 (Nat.le_of_ble_eq_true rfl) (Nat.le_of_ble_eq_true rfl)
      ·
        refine x_iload_n Z dX4_begin_11 rfl rfl ?_
        refine x_aload_n Z dX4_begin_12 rfl rfl ?_
        refine x_getf (ci := 5) (j := 2) (C := RX4) (T := TX4) (N := 7) Z inX4g rfl (by decide) q1043 rfl dX4_begin_13 (by assumption) rfl ?_
        refine x_iload_n Z dX4_begin_16 rfl rfl ?_
        refine x_iald Z dX4_begin_17 (by assumption) (by omega) (by omega) (by omega) ?_
        refine x_icmp_ge Z 36 dX4_begin_18 (by decide) ⟨by omega, by omega⟩ ⟨by omega, by omega⟩ (fun c18 => ?_) (fun c18 => ?_)
        ·
          refine x_iload_n Z dX4_begin_36 rfl rfl ?_
          refine x_aload_n Z dX4_begin_37 rfl rfl ?_
          refine x_getf (ci := 5) (j := 2) (C := RX4) (T := TX4) (N := 7) Z inX4g rfl (by decide) q1043 rfl dX4_begin_38 (by assumption) rfl ?_
          refine x_iload_n Z dX4_begin_41 rfl rfl ?_
          refine x_iald Z dX4_begin_42 (by assumption) (by omega) (by omega) (by omega) ?_
          refine x_icmp_ge Z 50 dX4_begin_43 (by decide) ⟨by omega, by omega⟩ ⟨by omega, by omega⟩ (fun c43 => ?_) (fun c43 => ?_)
          ·
            refine x_iconst Z dX4_begin_50 ?_
            exact x_iret Z E (⟨by first | (rw [pbg_t (plc_e (by omega) hif (by omega)) (by omega)]; done) | (rw [pbg_f (plc_e (by omega) hif (by omega)) (by omega)]; done), rfl⟩) dX4_begin_51 (Nat.le_of_ble_eq_true rfl) (Nat.le_of_ble_eq_true rfl)
          ·
            refine x_iload_n Z dX4_begin_46 rfl rfl ?_
            refine x_goto Z 51 dX4_begin_47 (by decide) ?_
            exact x_iret Z E (⟨by first | (rw [pbg_t (plc_e (by omega) hif (by omega)) (by omega)]; done) | (rw [pbg_f (plc_e (by omega) hif (by omega)) (by omega)]; done), rfl⟩) dX4_begin_51 (Nat.le_of_ble_eq_true rfl) (Nat.le_of_ble_eq_true rfl)
        ·
          have hlo := lon_in (n := (S.2.1 t)) (C := (S.2.2.1 t)) (p := p) (by omega)
          refine x_iload_n Z dX4_begin_21 rfl rfl ?_
          refine x_aload_n Z dX4_begin_22 rfl rfl ?_
          refine x_iload_n Z dX4_begin_23 rfl rfl ?_
          refine x_iload_n Z dX4_begin_24 rfl rfl ?_
          refine x_callV (ci := 5) (C := RX4) (T := TX4) (N := 7) Z okX4_longestOf q1175 q1177 q20 rfl dX4_begin_25 (c_X4_longestOf h0 htr hS (by omega) (by omega) (by omega) (by omega)) hS.1 ⟨Nat.le_of_ble_eq_true rfl, Nat.le_of_ble_eq_true rfl, Nat.le_of_ble_eq_true rfl, Nat.le_of_ble_eq_true rfl⟩ rfl rfl (Nat.le_of_ble_eq_true rfl) (fun v9 w9 hR => ?_)
          obtain ⟨rfl, e9⟩ := hR
          refine x_ew e9 ?_
          simp only [Option.toList_some, Option.toList_none, List.cons_append, List.nil_append]
          refine x_iadd Z dX4_begin_28 ?_
          refine x_istore_n (L' := [(3, _), (4, _), (0, _), (1, _), (2, _)]) Z dX4_begin_29 rfl (Nat.le_of_ble_eq_true rfl) rfl ?_
          refine x_iinc (L' := [(4, _), (3, _), (0, _), (1, _), (2, _)]) Z dX4_begin_30 rfl (Nat.le_of_ble_eq_true rfl) rfl ?_
          refine x_goto Z 5 dX4_begin_33 (by decide) ?_
          exact ih5 (i + 1) _ (by omega) ⟨by omega, by omega, by omega, by omega, by rw [show (i + 1).toNat = i.toNat + 1 by omega, plc_s (by omega), ← hif]⟩
  exact loop5 40 0 0 (by omega) ⟨by omega, by omega, by omega, by omega, rfl⟩
abbrev rmc_X4_piecesOf : Room := { frames := 6, cells := 0, slots := 0, locals := 137 }
set_option maxRecDepth 100000 in
theorem c_X4_piecesOf {l : Launch} {s0 : State} {G : gK} {w : wd} (h0 : gS0 s0) (htr : l.stackTraces = false) {R : rA} {S : rM} {t : Int} (hS : rS G w R S) (t0 : 0 ≤ t) (t3 : t < 3) : gM l s0 G yX4_piecesOf [Cond.code yX4_piecesOf cX4_piecesOf 4 (some .int)] rmc_X4_piecesOf [rv R.1, iv t] w (fun v w' => ∃ z : Int, v = some (iv z) ∧ w' = w ∧ (0 ≤ z ∧ z ≤ 30) ∧ ∃ h : Nat, plN (S.2.1 t) (S.2.2.1 t) h ∧ z = (h : Int)) (noX) := by
  refine g_of h0 htr (by decide +kernel) (Nat.le_of_ble_eq_true rfl) ?_
  intro b Z0 E
  have Z : gAm b l s0 G cX4_piecesOf RX4 4 rmc_X4_piecesOf := Z0
  refine x_el (L' := [(0, rv R.1), (1, iv t)]) rfl ?_
  obtain ⟨hr1, hr2, ⟨f3, hr3, hf3⟩, hr4, hr5, hr6⟩ := id hS
  obtain ⟨hrt, hn0, hn30, hC⟩ := hr5 t (by omega) (by omega)
  refine x_iconst Z dX4_piecesOf_0 ?_
  refine x_istore_n (L' := [(2, _), (0, _), (1, _)]) Z dX4_piecesOf_1 rfl (Nat.le_of_ble_eq_true rfl) rfl ?_
  refine x_iconst Z dX4_piecesOf_2 ?_
  refine x_istore_n (L' := [(3, _), (2, _), (0, _), (1, _)]) Z dX4_piecesOf_3 rfl (Nat.le_of_ble_eq_true rfl) rfl ?_
  have loop4 : ∀ (fu : Nat) (p m : Int), (S.2.1 t) - p < (fu : Int) → (0 ≤ p ∧ p ≤ (S.2.1 t) ∧ 0 ≤ m ∧ m ≤ p ∧ p = plc (S.2.1 t) (S.2.2.1 t) m.toNat ∧ ∀ a : Nat, a < m.toNat → plc (S.2.1 t) (S.2.2.1 t) a < (S.2.1 t)) → gX b s0 G (0) (0) 4 [(3, iv p), (2, iv m), (0, rv R.1), (1, iv t)] [] (w) := by
    intro fu; induction fu with
    | zero => intro p m hm hv; exact absurd hm (by omega)
    | succ fu ih4 =>
      intro p m hm hv
      obtain ⟨hp0, hpn, hm0, hmp, hif, hal⟩ := hv
      refine x_iload_n Z dX4_piecesOf_4 rfl rfl ?_
      refine x_aload_n Z dX4_piecesOf_5 rfl rfl ?_
      refine x_getf (ci := 5) (j := 2) (C := RX4) (T := TX4) (N := 7) Z inX4g rfl (by decide) q1043 rfl dX4_piecesOf_6 (by assumption) rfl ?_
      refine x_iload_n Z dX4_piecesOf_9 rfl rfl ?_
      refine x_iald Z dX4_piecesOf_10 (by assumption) (by omega) (by omega) (by omega) ?_
      refine x_icmp_ge Z 29 dX4_piecesOf_11 (by decide) ⟨by omega, by omega⟩ ⟨by omega, by omega⟩ (fun c11 => ?_) (fun c11 => ?_)
      ·
        refine x_iload_n Z dX4_piecesOf_29 rfl rfl ?_
        exact x_iret Z E (⟨_, rfl, rfl, ⟨by omega, by omega⟩, m.toNat, ⟨by omega, hal⟩, by omega⟩) dX4_piecesOf_30 (Nat.le_of_ble_eq_true rfl) (Nat.le_of_ble_eq_true rfl)
      ·
        have hlo := lon_in (n := (S.2.1 t)) (C := (S.2.2.1 t)) (p := p) (by omega)
        refine x_iinc (L' := [(2, _), (3, _), (0, _), (1, _)]) Z dX4_piecesOf_14 rfl (Nat.le_of_ble_eq_true rfl) rfl ?_
        refine x_iload_n Z dX4_piecesOf_17 rfl rfl ?_
        refine x_aload_n Z dX4_piecesOf_18 rfl rfl ?_
        refine x_iload_n Z dX4_piecesOf_19 rfl rfl ?_
        refine x_iload_n Z dX4_piecesOf_20 rfl rfl ?_
        refine x_callV (ci := 5) (C := RX4) (T := TX4) (N := 7) Z okX4_longestOf q1175 q1177 q20 rfl dX4_piecesOf_21 (c_X4_longestOf h0 htr hS (by omega) (by omega) (by omega) (by omega)) hS.1 ⟨Nat.le_of_ble_eq_true rfl, Nat.le_of_ble_eq_true rfl, Nat.le_of_ble_eq_true rfl, Nat.le_of_ble_eq_true rfl⟩ rfl rfl (Nat.le_of_ble_eq_true rfl) (fun v9 w9 hR => ?_)
        obtain ⟨rfl, e9⟩ := hR
        refine x_ew e9 ?_
        simp only [Option.toList_some, Option.toList_none, List.cons_append, List.nil_append]
        refine x_iadd Z dX4_piecesOf_24 ?_
        refine x_istore_n (L' := [(3, _), (2, _), (0, _), (1, _)]) Z dX4_piecesOf_25 rfl (Nat.le_of_ble_eq_true rfl) rfl ?_
        refine x_goto Z 4 dX4_piecesOf_26 (by decide) ?_
        have hs9 : (m + 1).toNat = m.toNat + 1 := by omega
        exact ih4 _ (m + 1) (by omega) ⟨by omega, by omega, by omega, by omega, by rw [hs9, plc_s (by omega), ← hif], fun a ha => (by { rcases (by omega : a < m.toNat ∨ a = m.toNat) with q | q; exact hal a q; rw [q, ← hif]; omega })⟩
  exact loop4 40 0 0 (by omega) ⟨by omega, by omega, by omega, by omega, rfl, fun a ha => absurd ha (Nat.not_lt_zero a)⟩
abbrev rmc_X4_cutsOf : Room := { frames := 6, cells := 0, slots := 0, locals := 137 }
set_option maxRecDepth 100000 in
theorem c_X4_cutsOf {l : Launch} {s0 : State} {G : gK} {w : wd} (h0 : gS0 s0) (htr : l.stackTraces = false) {R : rA} {S : rM} {t : Int} (hS : rS G w R S) (t0 : 0 ≤ t) (t3 : t < 3) : gM l s0 G yX4_cutsOf [Cond.code yX4_cutsOf cX4_cutsOf 4 (some .int)] rmc_X4_cutsOf [rv R.1, iv t] w (fun v w' => ∃ z : Int, v = some (iv z) ∧ w' = w ∧ inr z ∧ ∃ h : Nat, plN (S.2.1 t) (S.2.2.1 t) h ∧ plM (S.2.1 t) (S.2.2.1 t) h z) (noX) := by
  refine g_of h0 htr (by decide +kernel) (Nat.le_of_ble_eq_true rfl) ?_
  intro b Z0 E
  have Z : gAm b l s0 G cX4_cutsOf RX4 4 rmc_X4_cutsOf := Z0
  refine x_el (L' := [(0, rv R.1), (1, iv t)]) rfl ?_
  obtain ⟨hr1, hr2, ⟨f3, hr3, hf3⟩, hr4, hr5, hr6⟩ := id hS
  obtain ⟨hrt, hn0, hn30, hC⟩ := hr5 t (by omega) (by omega)
  refine x_iconst Z dX4_cutsOf_0 ?_
  refine x_istore_n (L' := [(2, _), (0, _), (1, _)]) Z dX4_cutsOf_1 rfl (Nat.le_of_ble_eq_true rfl) rfl ?_
  refine x_iconst Z dX4_cutsOf_2 ?_
  refine x_istore_n (L' := [(3, _), (2, _), (0, _), (1, _)]) Z dX4_cutsOf_3 rfl (Nat.le_of_ble_eq_true rfl) rfl ?_
  have loop4 : ∀ (fu : Nat) (p m : Int), (S.2.1 t) - p < (fu : Int) → (0 ≤ p ∧ p ≤ (S.2.1 t) ∧ inr m ∧ ∃ h : Nat, p = plc (S.2.1 t) (S.2.2.1 t) h ∧ (∀ a : Nat, a < h → plc (S.2.1 t) (S.2.2.1 t) a < (S.2.1 t)) ∧ plM (S.2.1 t) (S.2.2.1 t) h m) → gX b s0 G (0) (0) 4 [(3, iv p), (2, iv m), (0, rv R.1), (1, iv t)] [] (w) := by
    intro fu; induction fu with
    | zero => intro p m hm hv; exact absurd hm (by omega)
    | succ fu ih4 =>
      intro p m hm hv
      obtain ⟨hp0, hpn, hm, hh⟩ := hv
      refine x_iload_n Z dX4_cutsOf_4 rfl rfl ?_
      refine x_aload_n Z dX4_cutsOf_5 rfl rfl ?_
      refine x_getf (ci := 5) (j := 2) (C := RX4) (T := TX4) (N := 7) Z inX4g rfl (by decide) q1043 rfl dX4_cutsOf_6 (by assumption) rfl ?_
      refine x_iload_n Z dX4_cutsOf_9 rfl rfl ?_
      refine x_iald Z dX4_cutsOf_10 (by assumption) (by omega) (by omega) (by omega) ?_
      refine x_icmp_ge Z 40 dX4_cutsOf_11 (by decide) ⟨by omega, by omega⟩ ⟨by omega, by omega⟩ (fun c11 => ?_) (fun c11 => ?_)
      ·
        refine x_iload_n Z dX4_cutsOf_40 rfl rfl ?_
        obtain ⟨h, eh, hal, hm2⟩ := hh
        exact x_iret Z E (⟨_, rfl, rfl, hm, h, ⟨by omega, hal⟩, hm2⟩) dX4_cutsOf_41 (Nat.le_of_ble_eq_true rfl) (Nat.le_of_ble_eq_true rfl)
      ·
        have hlo := lon_in (n := (S.2.1 t)) (C := (S.2.2.1 t)) (p := p) (by omega)
        obtain ⟨h, eh, hal, hm2⟩ := hh
        refine x_iload_n Z dX4_cutsOf_14 rfl rfl ?_
        refine x_iload_n Z dX4_cutsOf_15 rfl rfl ?_
        refine x_if_ne Z 23 dX4_cutsOf_16 (by decide) ⟨by omega, by omega⟩ (fun c16 => ?_) (fun c16 => ?_)
        ·
          have hk9 : ∃ h2 : Nat, p + lon (S.2.1 t) (S.2.2.1 t) p = plc (S.2.1 t) (S.2.2.1 t) h2 ∧ (∀ a : Nat, a < h2 → plc (S.2.1 t) (S.2.2.1 t) a < (S.2.1 t)) ∧ plM (S.2.1 t) (S.2.2.1 t) h2 (bOr m (bShl 1 p)) := ⟨h + 1, by rw [plc_s (by omega), ← eh], fun a ha => (by { rcases (by omega : a < h ∨ a = h) with q | q; exact hal a q; rw [q, ← eh]; omega }), plM_s hm2 (by omega) (by omega) c16 eh.symm⟩
          refine x_iconst Z dX4_cutsOf_23 ?_
          refine x_iload_n Z dX4_cutsOf_24 rfl rfl ?_
          refine x_ishl Z dX4_cutsOf_25 ?_
          refine x_ior Z dX4_cutsOf_26 ?_
          refine x_istore_n (L' := [(2, _), (3, _), (0, _), (1, _)]) Z dX4_cutsOf_27 rfl (Nat.le_of_ble_eq_true rfl) rfl ?_
          refine x_iload_n Z dX4_cutsOf_28 rfl rfl ?_
          refine x_aload_n Z dX4_cutsOf_29 rfl rfl ?_
          refine x_iload_n Z dX4_cutsOf_30 rfl rfl ?_
          refine x_iload_n Z dX4_cutsOf_31 rfl rfl ?_
          refine x_callV (ci := 5) (C := RX4) (T := TX4) (N := 7) Z okX4_longestOf q1175 q1177 q20 rfl dX4_cutsOf_32 (c_X4_longestOf h0 htr hS (by omega) (by omega) (by omega) (by omega)) hS.1 ⟨Nat.le_of_ble_eq_true rfl, Nat.le_of_ble_eq_true rfl, Nat.le_of_ble_eq_true rfl, Nat.le_of_ble_eq_true rfl⟩ rfl rfl (Nat.le_of_ble_eq_true rfl) (fun v9 w9 hR => ?_)
          obtain ⟨rfl, e9⟩ := hR
          refine x_ew e9 ?_
          simp only [Option.toList_some, Option.toList_none, List.cons_append, List.nil_append]
          refine x_iadd Z dX4_cutsOf_35 ?_
          refine x_istore_n (L' := [(3, _), (2, _), (0, _), (1, _)]) Z dX4_cutsOf_36 rfl (Nat.le_of_ble_eq_true rfl) rfl ?_
          refine x_goto Z 4 dX4_cutsOf_37 (by decide) ?_
          exact ih4 _ _ (by omega) ⟨by omega, by omega, bOr_in _ _, hk9⟩
        ·
          have hk9 : ∃ h2 : Nat, p + lon (S.2.1 t) (S.2.2.1 t) p = plc (S.2.1 t) (S.2.2.1 t) h2 ∧ (∀ a : Nat, a < h2 → plc (S.2.1 t) (S.2.2.1 t) a < (S.2.1 t)) ∧ plM (S.2.1 t) (S.2.2.1 t) h2 (bOr m 0) := ⟨h + 1, by rw [plc_s (by omega), ← eh], fun a ha => (by { rcases (by omega : a < h ∨ a = h) with q | q; exact hal a q; rw [q, ← eh]; omega }), plM_k hm2 (eh.symm.trans c16)⟩
          refine x_iconst Z dX4_cutsOf_19 ?_
          refine x_goto Z 26 dX4_cutsOf_20 (by decide) ?_
          refine x_ior Z dX4_cutsOf_26 ?_
          refine x_istore_n (L' := [(2, _), (3, _), (0, _), (1, _)]) Z dX4_cutsOf_27 rfl (Nat.le_of_ble_eq_true rfl) rfl ?_
          refine x_iload_n Z dX4_cutsOf_28 rfl rfl ?_
          refine x_aload_n Z dX4_cutsOf_29 rfl rfl ?_
          refine x_iload_n Z dX4_cutsOf_30 rfl rfl ?_
          refine x_iload_n Z dX4_cutsOf_31 rfl rfl ?_
          refine x_callV (ci := 5) (C := RX4) (T := TX4) (N := 7) Z okX4_longestOf q1175 q1177 q20 rfl dX4_cutsOf_32 (c_X4_longestOf h0 htr hS (by omega) (by omega) (by omega) (by omega)) hS.1 ⟨Nat.le_of_ble_eq_true rfl, Nat.le_of_ble_eq_true rfl, Nat.le_of_ble_eq_true rfl, Nat.le_of_ble_eq_true rfl⟩ rfl rfl (Nat.le_of_ble_eq_true rfl) (fun v9 w9 hR => ?_)
          obtain ⟨rfl, e9⟩ := hR
          refine x_ew e9 ?_
          simp only [Option.toList_some, Option.toList_none, List.cons_append, List.nil_append]
          refine x_iadd Z dX4_cutsOf_35 ?_
          refine x_istore_n (L' := [(3, _), (2, _), (0, _), (1, _)]) Z dX4_cutsOf_36 rfl (Nat.le_of_ble_eq_true rfl) rfl ?_
          refine x_goto Z 4 dX4_cutsOf_37 (by decide) ?_
          exact ih4 _ _ (by omega) ⟨by omega, by omega, bOr_in _ _, hk9⟩
  exact loop4 40 0 0 (by omega) ⟨by omega, by omega, ⟨by decide, by decide⟩, 0, rfl, fun a ha => absurd ha (Nat.not_lt_zero a), plM_0⟩
abbrev rmc_X4_backOf : Room := { frames := 5, cells := 0, slots := 0, locals := 114 }
set_option maxRecDepth 100000 in
theorem c_X4_backOf {l : Launch} {s0 : State} {G : gK} {w : wd} (h0 : gS0 s0) (htr : l.stackTraces = false) {R : rA} {S : rM} {t : Int} (hS : rS G w R S) (t0 : 0 ≤ t) (t3 : t < 3) : gM l s0 G yX4_backOf [Cond.code yX4_backOf cX4_backOf 5 (some .int)] rmc_X4_backOf [rv R.1, iv t] w (fun v w' => ∃ z : Int, v = some (iv z) ∧ w' = w ∧ inr z ∧ ∃ h : Nat, bkM (S.2.1 t) (S.2.2.1 t) false h z ∧ bkc (S.2.1 t) (S.2.2.1 t) h = 0) (noX) := by
  refine g_of h0 htr (by decide +kernel) (Nat.le_of_ble_eq_true rfl) ?_
  intro b Z0 E
  have Z : gAm b l s0 G cX4_backOf RX4 5 rmc_X4_backOf := Z0
  refine x_el (L' := [(0, rv R.1), (1, iv t)]) rfl ?_
  obtain ⟨hr1, hr2, ⟨f3, hr3, hf3⟩, hr4, hr5, hr6⟩ := id hS
  obtain ⟨hrt, hn0, hn30, hC⟩ := hr5 t (by omega) (by omega)
  refine x_iconst Z dX4_backOf_0 ?_
  refine x_istore_n (L' := [(2, _), (0, _), (1, _)]) Z dX4_backOf_1 rfl (Nat.le_of_ble_eq_true rfl) rfl ?_
  refine x_aload_n Z dX4_backOf_2 rfl rfl ?_
  refine x_getf (ci := 5) (j := 2) (C := RX4) (T := TX4) (N := 7) Z inX4g rfl (by decide) q1043 rfl dX4_backOf_3 (by assumption) rfl ?_
  refine x_iload_n Z dX4_backOf_6 rfl rfl ?_
  refine x_iald Z dX4_backOf_7 (by assumption) (by omega) (by omega) (by omega) ?_
  refine x_istore_n (L' := [(3, _), (2, _), (0, _), (1, _)]) Z dX4_backOf_8 rfl (Nat.le_of_ble_eq_true rfl) rfl ?_
  have loop9 : ∀ (fu : Nat) (e m : Int), e < (fu : Int) → (0 ≤ e ∧ e ≤ (S.2.1 t) ∧ inr m ∧ ∃ h : Nat, e = bkc (S.2.1 t) (S.2.2.1 t) h ∧ bkM (S.2.1 t) (S.2.2.1 t) false h m) → gX b s0 G (0) (0) 9 [(3, iv e), (2, iv m), (0, rv R.1), (1, iv t)] [] (w) := by
    intro fu; induction fu with
    | zero => intro e m hm hv; exact absurd hm (by omega)
    | succ fu ih9 =>
      intro e m hm hv
      obtain ⟨he0, hen, hm, hh⟩ := hv
      refine x_iload_n Z dX4_backOf_9 rfl rfl ?_
      refine x_if_le Z 55 dX4_backOf_10 (by decide) ⟨by omega, by omega⟩ (fun c10 => ?_) (fun c10 => ?_)
      ·
        refine x_iload_n Z dX4_backOf_55 rfl rfl ?_
        obtain ⟨h, eh, hm2⟩ := hh
        exact x_iret Z E (⟨_, rfl, rfl, hm, h, hm2, by omega⟩) dX4_backOf_56 (Nat.le_of_ble_eq_true rfl) (Nat.le_of_ble_eq_true rfl)
      ·
        have hbk := bk_in (n := (S.2.1 t)) (C := (S.2.2.1 t)) (e := e) (by omega) (by omega)
        refine x_iconst Z dX4_backOf_13 ?_
        refine x_istore (L' := [(4, _), (3, _), (2, _), (0, _), (1, _)]) Z dX4_backOf_14 (Nat.le_of_ble_eq_true rfl) rfl ?_
        have loop16 : ∀ (fu : Nat) (p : Int), e - p < (fu : Int) → (0 ≤ p ∧ p < e ∧ findI (fun p => decide (e - p ≤ lon (S.2.1 t) (S.2.2.1 t) p)) p e = bk (S.2.1 t) (S.2.2.1 t) e) → gX b s0 G (0) (0) 16 [(4, iv p), (3, iv e), (2, iv m), (0, rv R.1), (1, iv t)] [] (w) := by
          intro fu; induction fu with
          | zero => intro p hm hv; exact absurd hm (by omega)
          | succ fu ih16 =>
            intro p hm hv
            obtain ⟨hp0, hpe, hfi⟩ := hv
            refine x_aload_n Z dX4_backOf_16 rfl rfl ?_
            refine x_iload_n Z dX4_backOf_17 rfl rfl ?_
            refine x_iload Z dX4_backOf_18 rfl ?_
            refine x_iload_n Z dX4_backOf_20 rfl rfl ?_
            refine x_callV (ci := 5) (C := RX4) (T := TX4) (N := 7) Z okX4_sortOf q1179 q1181 q21 rfl dX4_backOf_21 (c_X4_sortOf h0 htr hS (by omega) (by omega) (by omega) (by omega) (by omega)) hS.1 ⟨Nat.le_of_ble_eq_true rfl, Nat.le_of_ble_eq_true rfl, Nat.le_of_ble_eq_true rfl, Nat.le_of_ble_eq_true rfl⟩ rfl rfl (Nat.le_of_ble_eq_true rfl) (fun v9 w9 hR => ?_)
            obtain ⟨rfl, e9⟩ := hR
            refine x_ew e9 ?_
            simp only [Option.toList_some, Option.toList_none, List.cons_append, List.nil_append]
            have hsi := srt_in (n := (S.2.1 t)) (C := (S.2.2.1 t)) (f := p) (e := e) (by omega) (by omega)
            have hsp := srt_p (n := (S.2.1 t)) (C := (S.2.2.1 t)) (f := p) (e := e) (by omega) (by omega)
            have hlo := lon_in (n := (S.2.1 t)) (C := (S.2.2.1 t)) (p := p) (by omega)
            refine x_if_ge Z 33 dX4_backOf_24 (by decide) ⟨by omega, by omega⟩ (fun c24 => ?_) (fun c24 => ?_)
            ·
              have hbp : bk (S.2.1 t) (S.2.2.1 t) e = p := by { rw [← hfi]; exact findI_h (P := fun p => decide (e - p ≤ lon (S.2.1 t) (S.2.2.1 t) p)) (i := p) (n := e) (decide_eq_true (show e - p ≤ lon (S.2.1 t) (S.2.2.1 t) p by omega)) }
              obtain ⟨h, eh, hm2⟩ := hh
              have hbs : bkc (S.2.1 t) (S.2.2.1 t) (h + 1) = p := by { rw [bkc_s (by omega), ← eh]; exact hbp }
              refine x_iload_n Z dX4_backOf_33 rfl rfl ?_
              refine x_iload Z dX4_backOf_34 rfl ?_
              refine x_if_ne Z 43 dX4_backOf_36 (by decide) ⟨by omega, by omega⟩ (fun c36 => ?_) (fun c36 => ?_)
              ·
                have hk9 : ∃ h2 : Nat, p = bkc (S.2.1 t) (S.2.2.1 t) h2 ∧ bkM (S.2.1 t) (S.2.2.1 t) false h2 (bOr m (bShl 1 p)) := ⟨h + 1, hbs.symm, bkM_s hm2 (by omega) (by omega) (Or.inr c36) hbs⟩
                refine x_iconst Z dX4_backOf_43 ?_
                refine x_iload Z dX4_backOf_44 rfl ?_
                refine x_ishl Z dX4_backOf_46 ?_
                refine x_ior Z dX4_backOf_47 ?_
                refine x_istore_n (L' := [(2, _), (4, _), (3, _), (0, _), (1, _)]) Z dX4_backOf_48 rfl (Nat.le_of_ble_eq_true rfl) rfl ?_
                refine x_iload Z dX4_backOf_49 rfl ?_
                refine x_istore_n (L' := [(3, _), (2, _), (4, _), (0, _), (1, _)]) Z dX4_backOf_51 rfl (Nat.le_of_ble_eq_true rfl) rfl ?_
                refine x_goto Z 9 dX4_backOf_52 (by decide) ?_
                refine x_sub [0, 1, 3, 4] rfl ?_
                exact ih9 _ _ (by omega) ⟨by omega, by omega, bOr_in _ _, hk9⟩
              ·
                have hk9 : ∃ h2 : Nat, p = bkc (S.2.1 t) (S.2.2.1 t) h2 ∧ bkM (S.2.1 t) (S.2.2.1 t) false h2 (bOr m 0) := ⟨h + 1, hbs.symm, bkM_k hm2 (hbs.trans c36)⟩
                refine x_iconst Z dX4_backOf_39 ?_
                refine x_goto Z 47 dX4_backOf_40 (by decide) ?_
                refine x_ior Z dX4_backOf_47 ?_
                refine x_istore_n (L' := [(2, _), (4, _), (3, _), (0, _), (1, _)]) Z dX4_backOf_48 rfl (Nat.le_of_ble_eq_true rfl) rfl ?_
                refine x_iload Z dX4_backOf_49 rfl ?_
                refine x_istore_n (L' := [(3, _), (2, _), (4, _), (0, _), (1, _)]) Z dX4_backOf_51 rfl (Nat.le_of_ble_eq_true rfl) rfl ?_
                refine x_goto Z 9 dX4_backOf_52 (by decide) ?_
                refine x_sub [0, 1, 3, 4] rfl ?_
                exact ih9 _ _ (by omega) ⟨by omega, by omega, bOr_in _ _, hk9⟩
            ·
              have hfm := findI_m (P := fun p => decide (e - p ≤ lon (S.2.1 t) (S.2.2.1 t) p)) (i := p) (n := e) (by omega) (decide_eq_false (show ¬ e - p ≤ lon (S.2.1 t) (S.2.2.1 t) p by omega))
              have hfi2 := findI_in (P := fun p => decide (e - p ≤ lon (S.2.1 t) (S.2.2.1 t) p)) (i := p + 1) (n := e) (by omega)
              refine x_iinc (L' := [(4, _), (3, _), (2, _), (0, _), (1, _)]) Z dX4_backOf_27 rfl (Nat.le_of_ble_eq_true rfl) rfl ?_
              refine x_goto Z 16 dX4_backOf_30 (by decide) ?_
              exact ih16 (p + 1) (by omega) ⟨by omega, by omega, hfm.symm.trans hfi⟩
        exact loop16 40 0 (by omega) ⟨by omega, by omega, rfl⟩
  exact loop9 40 (S.2.1 t) 0 (by omega) ⟨by omega, by omega, ⟨by decide, by decide⟩, 0, rfl, bkM_0⟩
abbrev rmc_X4_fewestOf : Room := { frames := 5, cells := 1, slots := 31, locals := 114 }
set_option maxRecDepth 100000 in
theorem c_X4_fewestOf {l : Launch} {s0 : State} {G : gK} {w : wd} (h0 : gS0 s0) (htr : l.stackTraces = false) {R : rA} {S : rM} {t : Int} (hS : rS G w R S) (t0 : 0 ≤ t) (t3 : t < 3) : gM l s0 G yX4_fewestOf [Cond.code yX4_fewestOf cX4_fewestOf 5 (some .int)] rmc_X4_fewestOf [rv R.1, iv t] w (fun v w' => ∃ z : Int, v = some (iv z) ∧ w' = w ∧ (0 ≤ z ∧ z ≤ 30) ∧ ∃ B9 : Int → Int, fwP (S.2.1 t) (S.2.2.1 t) B9 ∧ z = B9 (S.2.1 t)) (noX) := by
  refine g_of h0 htr (by decide +kernel) (Nat.le_of_ble_eq_true rfl) ?_
  intro b Z0 E
  have Z : gAm b l s0 G cX4_fewestOf RX4 5 rmc_X4_fewestOf := Z0
  refine x_el (L' := [(0, rv R.1), (1, iv t)]) rfl ?_
  obtain ⟨hr1, hr2, ⟨f3, hr3, hf3⟩, hr4, hr5, hr6⟩ := id hS
  obtain ⟨hrt, hn0, hn30, hC⟩ := hr5 t (by omega) (by omega)
  have hnn : ((((S.2.1 t) + 1).toNat : Nat) : Int) = (S.2.1 t) + 1 := Int.toNat_of_nonneg (by omega)
  refine x_aload_n Z dX4_fewestOf_0 rfl rfl ?_
  refine x_getf (ci := 5) (j := 2) (C := RX4) (T := TX4) (N := 7) Z inX4g rfl (by decide) q1043 rfl dX4_fewestOf_1 (by assumption) rfl ?_
  refine x_iload_n Z dX4_fewestOf_4 rfl rfl ?_
  refine x_iald Z dX4_fewestOf_5 (by assumption) (by omega) (by omega) (by omega) ?_
  refine x_iconst Z dX4_fewestOf_6 ?_
  refine x_iadd Z dX4_fewestOf_7 ?_
  refine x_newI Z (((S.2.1 t) + 1).toNat) q83 (by first | rfl | omega) (by omega) (Nat.le_of_ble_eq_true rfl) (by show 0 + _ ≤ 31; omega) dX4_fewestOf_8 (fun n8 hn8 => ?_)
  have hne : ∀ q, rP R S.1 q → ¬ q = n8 := fun q hq z => hS.nn q hq (by rw [z]; exact hn8)
  refine x_wd (k' := 1) (n' := 31) (by omega) (by omega) ?_
  obtain ⟨w0, hw0⟩ : ∃ x, x = ws1 w n8 (eI G ((S.2.1 t) + 1).toNat (fun _ => 0)) := ⟨_, rfl⟩
  refine x_ew hw0.symm ?_
  have hf : fr (fun _ => False) w w0 := by { rw [hw0]; exact fr.rf.new hn8 }
  have hA : w0 n8 = some (eI G ((S.2.1 t) + 1).toNat (fun _ => 0)) := by { rw [hw0]; exact ws1_s }
  have hS := hS.frm hf (fun _ _ h => h)
  obtain ⟨hr1, hr2, ⟨f3, hr3, hf3⟩, hr4, hr5, hr6⟩ := id hS
  obtain ⟨hrt, hn0, hn30, hC⟩ := hr5 t (by omega) (by omega)
  refine x_astore_n (L' := [(2, _), (0, _), (1, _)]) Z dX4_fewestOf_10 rfl (Nat.le_of_ble_eq_true rfl) rfl ?_
  refine x_iconst Z dX4_fewestOf_11 ?_
  refine x_istore_n (L' := [(3, _), (2, _), (0, _), (1, _)]) Z dX4_fewestOf_12 rfl (Nat.le_of_ble_eq_true rfl) rfl ?_
  have loop13 : ∀ (fu : Nat) (e : Int) (F : Int → Int) (w1 : wd), 40 - e < (fu : Int) → (1 ≤ e ∧ e ≤ (S.2.1 t) + 1 ∧ fwO (S.2.1 t) (S.2.2.1 t) F e ∧ rS G w1 R S ∧ w1 n8 = some (eI G ((S.2.1 t) + 1).toNat F) ∧ fr (fun _ => False) w w1) → gX b s0 G (1) (31) 13 [(3, iv e), (2, rv n8), (0, rv R.1), (1, iv t)] [] (w1) := by
    intro fu; induction fu with
    | zero => intro e F w1 hm hv; exact absurd hm (by omega)
    | succ fu ih13 =>
      intro e F w1 hm hv
      obtain ⟨he0, hen, hO, hS, hA, hf⟩ := hv
      obtain ⟨hr1, hr2, ⟨f3, hr3, hf3⟩, hr4, hr5, hr6⟩ := id hS
      obtain ⟨hrt, hn0, hn30, hC⟩ := hr5 t (by omega) (by omega)
      refine x_iload_n Z dX4_fewestOf_13 rfl rfl ?_
      refine x_aload_n Z dX4_fewestOf_14 rfl rfl ?_
      refine x_alenI Z dX4_fewestOf_15 (by assumption) ?_
      rw [hnn]
      refine x_icmp_ge Z 71 dX4_fewestOf_16 (by decide) ⟨by omega, by omega⟩ ⟨by omega, by omega⟩ (fun c16 => ?_) (fun c16 => ?_)
      ·
        refine x_aload_n Z dX4_fewestOf_71 rfl rfl ?_
        refine x_aload_n Z dX4_fewestOf_72 rfl rfl ?_
        refine x_getf (ci := 5) (j := 2) (C := RX4) (T := TX4) (N := 7) Z inX4g rfl (by decide) q1043 rfl dX4_fewestOf_73 (by assumption) rfl ?_
        refine x_iload_n Z dX4_fewestOf_76 rfl rfl ?_
        refine x_iald Z dX4_fewestOf_77 (by assumption) (by omega) (by omega) (by omega) ?_
        refine x_iald Z dX4_fewestOf_78 (by assumption) (by omega) (by omega) (by omega) ?_
        have hfp : fwP (S.2.1 t) (S.2.2.1 t) F := fwO_n (by { have h := hO; rw [show e = (S.2.1 t) + 1 by omega] at h; exact h })
        have hrn := fwO_r hO (g := (S.2.1 t)) (by omega) (by omega)
        refine x_fg hf.sub ?_
        exact x_iret Z E (⟨_, rfl, rfl, ⟨by omega, by omega⟩, F, hfp, rfl⟩) dX4_fewestOf_79 (Nat.le_of_ble_eq_true rfl) (Nat.le_of_ble_eq_true rfl)
      ·
        refine x_aload_n Z dX4_fewestOf_19 rfl rfl ?_
        refine x_iload_n Z dX4_fewestOf_20 rfl rfl ?_
        refine x_bipush Z dX4_fewestOf_21 (by decide +kernel) ?_
        refine x_iast Z dX4_fewestOf_23 (by assumption) (by omega) (by omega) (by omega) ?_
        refine x_iconst Z dX4_fewestOf_24 ?_
        refine x_istore (L' := [(4, _), (3, _), (2, _), (0, _), (1, _)]) Z dX4_fewestOf_25 (Nat.le_of_ble_eq_true rfl) rfl ?_
        have loop27 : ∀ (fu : Nat) (g : Int) (F : Int → Int) (w1 : wd), 40 - g < (fu : Int) → (0 ≤ g ∧ g ≤ e ∧ fwR (S.2.1 t) (S.2.2.1 t) F e g ∧ rS G w1 R S ∧ w1 n8 = some (eI G ((S.2.1 t) + 1).toNat F) ∧ fr (fun _ => False) w w1) → gX b s0 G (1) (31) 27 [(4, iv g), (3, iv e), (2, rv n8), (0, rv R.1), (1, iv t)] [] (w1) := by
          intro fu; induction fu with
          | zero => intro g F w1 hm hv; exact absurd hm (by omega)
          | succ fu ih27 =>
            intro g F w1 hm hv
            obtain ⟨hg0, hge, hW, hS, hA, hf⟩ := hv
            obtain ⟨hr1, hr2, ⟨f3, hr3, hf3⟩, hr4, hr5, hr6⟩ := id hS
            obtain ⟨hrt, hn0, hn30, hC⟩ := hr5 t (by omega) (by omega)
            refine x_iload Z dX4_fewestOf_27 rfl ?_
            refine x_iload_n Z dX4_fewestOf_29 rfl rfl ?_
            refine x_icmp_ge Z 65 dX4_fewestOf_30 (by decide) ⟨by omega, by omega⟩ ⟨by omega, by omega⟩ (fun c30 => ?_) (fun c30 => ?_)
            ·
              refine x_iinc (L' := [(3, _), (4, _), (2, _), (0, _), (1, _)]) Z dX4_fewestOf_65 rfl (Nat.le_of_ble_eq_true rfl) rfl ?_
              refine x_goto Z 13 dX4_fewestOf_68 (by decide) ?_
              refine x_sub [0, 2, 3, 4] rfl ?_
              exact ih13 (e + 1) _ _ (by omega) ⟨by omega, by omega, fwR_e (by omega) (by omega) (by omega) (by { have h := hW; rw [show g = e by omega] at h; exact h }), hS, hA, hf⟩
            ·
              refine x_aload_n Z dX4_fewestOf_33 rfl rfl ?_
              refine x_iload_n Z dX4_fewestOf_34 rfl rfl ?_
              refine x_iload Z dX4_fewestOf_35 rfl ?_
              refine x_iload_n Z dX4_fewestOf_37 rfl rfl ?_
              refine x_callV (ci := 5) (C := RX4) (T := TX4) (N := 7) Z okX4_sortOf q1179 q1181 q21 rfl dX4_fewestOf_38 (c_X4_sortOf h0 htr hS (by omega) (by omega) (by omega) (by omega) (by omega)) hS.1 ⟨Nat.le_of_ble_eq_true rfl, Nat.le_of_ble_eq_true rfl, Nat.le_of_ble_eq_true rfl, Nat.le_of_ble_eq_true rfl⟩ rfl rfl (Nat.le_of_ble_eq_true rfl) (fun v9 w9 hR => ?_)
              obtain ⟨rfl, e9⟩ := hR
              refine x_ew e9 ?_
              simp only [Option.toList_some, Option.toList_none, List.cons_append, List.nil_append]
              have hsi := srt_in (n := (S.2.1 t)) (C := (S.2.2.1 t)) (f := g) (e := e) (by omega) (by omega)
              have hsp := srt_p (n := (S.2.1 t)) (C := (S.2.2.1 t)) (f := g) (e := e) (by omega) (by omega)
              refine x_if_lt Z 59 dX4_fewestOf_41 (by decide) ⟨by omega, by omega⟩ (fun c41 => ?_) (fun c41 => ?_)
              ·
                refine x_iinc (L' := [(4, _), (3, _), (2, _), (0, _), (1, _)]) Z dX4_fewestOf_59 rfl (Nat.le_of_ble_eq_true rfl) rfl ?_
                refine x_goto Z 27 dX4_fewestOf_62 (by decide) ?_
                first | exact ih27 (g + 1) _ _ (by omega) ⟨by omega, by omega, fwR_k hW (by omega), hS, hA, hf⟩ | exact ih27 (g + 1) _ _ (by omega) ⟨by omega, by omega, fwR_s (by omega) (by omega) hW (by omega) (by omega) (by omega), hS.frm (P := fun q => q = n8) (fr.rf.set rfl) hne, ws1_s, hf.set0 hn8⟩
              ·
                have hrg := fwO_r hW.1 (g := g) (by omega) (by omega)
                have hre := hW.2
                refine x_aload_n Z dX4_fewestOf_44 rfl rfl ?_
                refine x_iload_n Z dX4_fewestOf_45 rfl rfl ?_
                refine x_aload_n Z dX4_fewestOf_46 rfl rfl ?_
                refine x_iload_n Z dX4_fewestOf_47 rfl rfl ?_
                refine x_iald Z dX4_fewestOf_48 (by assumption) (by omega) (by omega) (by omega) ?_
                refine x_aload_n Z dX4_fewestOf_49 rfl rfl ?_
                refine x_iload Z dX4_fewestOf_50 rfl ?_
                refine x_iald Z dX4_fewestOf_52 (by assumption) (by omega) (by omega) (by omega) ?_
                refine x_iconst Z dX4_fewestOf_53 ?_
                refine x_iadd Z dX4_fewestOf_54 ?_
                refine x_mmin Z q1361 q169 q51 q170 dX4_fewestOf_55 ⟨by omega, by omega⟩ ⟨by omega, by omega⟩ (Nat.le_of_ble_eq_true rfl) (Nat.le_of_ble_eq_true rfl) (by exact Nat.le_of_ble_eq_true rfl) (by exact Nat.le_of_ble_eq_true rfl) ?_
                refine x_iast Z dX4_fewestOf_58 (by assumption) (by omega) (by omega) (by omega) ?_
                refine x_iinc (L' := [(4, _), (3, _), (2, _), (0, _), (1, _)]) Z dX4_fewestOf_59 rfl (Nat.le_of_ble_eq_true rfl) rfl ?_
                refine x_goto Z 27 dX4_fewestOf_62 (by decide) ?_
                first | exact ih27 (g + 1) _ _ (by omega) ⟨by omega, by omega, fwR_k hW (by omega), hS, hA, hf⟩ | exact ih27 (g + 1) _ _ (by omega) ⟨by omega, by omega, fwR_s (by omega) (by omega) hW (by omega) (by omega) (by omega), hS.frm (P := fun q => q = n8) (fr.rf.set rfl) hne, ws1_s, hf.set0 hn8⟩
        exact loop27 50 0 _ _ (by omega) ⟨by omega, by omega, fwR_0 (by omega) hO, hS.frm (P := fun q => q = n8) (fr.rf.set rfl) hne, ws1_s, hf.set0 hn8⟩
  exact loop13 50 1 _ _ (by omega) ⟨by omega, by omega, ⟨rfl, fun e e1 e2 => absurd e2 (by omega)⟩, hS, hA, hf⟩
abbrev rmc_X4_partedOf : Room := { frames := 5, cells := 0, slots := 0, locals := 114 }
set_option maxRecDepth 100000 in
theorem c_X4_partedOf {l : Launch} {s0 : State} {G : gK} {w : wd} (h0 : gS0 s0) (htr : l.stackTraces = false) {R : rA} {S : rM} {t : Int} {m : Int} (hS : rS G w R S) (t0 : 0 ≤ t) (t3 : t < 3) : gM l s0 G yX4_partedOf [Cond.code yX4_partedOf cX4_partedOf 6 (some .int)] rmc_X4_partedOf [rv R.1, iv t, iv m] w (fun v w' => ∃ z : Int, v = some (iv z) ∧ w' = w ∧ (-1 ≤ z ∧ z ≤ 30) ∧ z = ptI (S.2.1 t) (S.2.2.1 t) m 1 0 0) (noX) := by
  refine g_of h0 htr (by decide +kernel) (Nat.le_of_ble_eq_true rfl) ?_
  intro b Z0 E
  have Z : gAm b l s0 G cX4_partedOf RX4 6 rmc_X4_partedOf := Z0
  refine x_el (L' := [(0, rv R.1), (1, iv t), (2, iv m)]) rfl ?_
  obtain ⟨hr1, hr2, ⟨f3, hr3, hf3⟩, hr4, hr5, hr6⟩ := id hS
  obtain ⟨hrt, hn0, hn30, hC⟩ := hr5 t (by omega) (by omega)
  refine x_iconst Z dX4_partedOf_0 ?_
  refine x_istore_n (L' := [(3, _), (0, _), (1, _), (2, _)]) Z dX4_partedOf_1 rfl (Nat.le_of_ble_eq_true rfl) rfl ?_
  refine x_iconst Z dX4_partedOf_2 ?_
  refine x_istore (L' := [(4, _), (3, _), (0, _), (1, _), (2, _)]) Z dX4_partedOf_3 (Nat.le_of_ble_eq_true rfl) rfl ?_
  refine x_iconst Z dX4_partedOf_5 ?_
  refine x_istore (L' := [(5, _), (4, _), (3, _), (0, _), (1, _), (2, _)]) Z dX4_partedOf_6 (Nat.le_of_ble_eq_true rfl) rfl ?_
  have loop8 : ∀ (fu : Nat) (e g p : Int), (S.2.1 t) + 1 - e < (fu : Int) → (1 ≤ e ∧ e ≤ (S.2.1 t) + 1 ∧ 0 ≤ g ∧ g < e ∧ 0 ≤ p ∧ p < e ∧ ptI (S.2.1 t) (S.2.2.1 t) m e g p = ptI (S.2.1 t) (S.2.2.1 t) m 1 0 0) → gX b s0 G (0) (0) 8 [(5, iv e), (4, iv g), (3, iv p), (0, rv R.1), (1, iv t), (2, iv m)] [] (w) := by
    intro fu; induction fu with
    | zero => intro e g p hm hv; exact absurd hm (by omega)
    | succ fu ih8 =>
      intro e g p hm hv
      obtain ⟨he0, hen, hg0, hge, hp0, hpe, hif⟩ := hv
      refine x_iload Z dX4_partedOf_8 rfl ?_
      refine x_aload_n Z dX4_partedOf_10 rfl rfl ?_
      refine x_getf (ci := 5) (j := 2) (C := RX4) (T := TX4) (N := 7) Z inX4g rfl (by decide) q1043 rfl dX4_partedOf_11 (by assumption) rfl ?_
      refine x_iload_n Z dX4_partedOf_14 rfl rfl ?_
      refine x_iald Z dX4_partedOf_15 (by assumption) (by omega) (by omega) (by omega) ?_
      refine x_icmp_gt Z 69 dX4_partedOf_16 (by decide) ⟨by omega, by omega⟩ ⟨by omega, by omega⟩ (fun c16 => ?_) (fun c16 => ?_)
      ·
        refine x_iload_n Z dX4_partedOf_69 rfl rfl ?_
        exact x_iret Z E (⟨_, rfl, rfl, ⟨by omega, by omega⟩, by rw [← hif, ptI_e (by omega)]⟩) dX4_partedOf_70 (Nat.le_of_ble_eq_true rfl) (Nat.le_of_ble_eq_true rfl)
      ·
        refine x_iload Z dX4_partedOf_19 rfl ?_
        refine x_aload_n Z dX4_partedOf_21 rfl rfl ?_
        refine x_getf (ci := 5) (j := 2) (C := RX4) (T := TX4) (N := 7) Z inX4g rfl (by decide) q1043 rfl dX4_partedOf_22 (by assumption) rfl ?_
        refine x_iload_n Z dX4_partedOf_25 rfl rfl ?_
        refine x_iald Z dX4_partedOf_26 (by assumption) (by omega) (by omega) (by omega) ?_
        refine x_icmp_ge Z 42 dX4_partedOf_27 (by decide) ⟨by omega, by omega⟩ ⟨by omega, by omega⟩ (fun c27 => ?_) (fun c27 => ?_)
        ·
          refine x_aload_n Z dX4_partedOf_42 rfl rfl ?_
          refine x_iload_n Z dX4_partedOf_43 rfl rfl ?_
          refine x_iload Z dX4_partedOf_44 rfl ?_
          refine x_iload Z dX4_partedOf_46 rfl ?_
          refine x_callV (ci := 5) (C := RX4) (T := TX4) (N := 7) Z okX4_sortOf q1179 q1181 q21 rfl dX4_partedOf_48 (c_X4_sortOf h0 htr hS (by omega) (by omega) (by omega) (by omega) (by omega)) hS.1 ⟨Nat.le_of_ble_eq_true rfl, Nat.le_of_ble_eq_true rfl, Nat.le_of_ble_eq_true rfl, Nat.le_of_ble_eq_true rfl⟩ rfl rfl (Nat.le_of_ble_eq_true rfl) (fun v9 w9 hR => ?_)
          obtain ⟨rfl, e9⟩ := hR
          refine x_ew e9 ?_
          simp only [Option.toList_some, Option.toList_none, List.cons_append, List.nil_append]
          have hsi := srt_in (n := (S.2.1 t)) (C := (S.2.2.1 t)) (f := g) (e := e) (by omega) (by omega)
          have hsp := srt_p (n := (S.2.1 t)) (C := (S.2.2.1 t)) (f := g) (e := e) (by omega) (by omega)
          refine x_if_ge Z 56 dX4_partedOf_51 (by decide) ⟨by omega, by omega⟩ (fun c51 => ?_) (fun c51 => ?_)
          ·
            refine x_iinc (L' := [(3, _), (5, _), (4, _), (0, _), (1, _), (2, _)]) Z dX4_partedOf_56 rfl (Nat.le_of_ble_eq_true rfl) rfl ?_
            refine x_iload Z dX4_partedOf_59 rfl ?_
            refine x_istore (L' := [(4, _), (3, _), (5, _), (0, _), (1, _), (2, _)]) Z dX4_partedOf_61 (Nat.le_of_ble_eq_true rfl) rfl ?_
            refine x_iinc (L' := [(5, _), (4, _), (3, _), (0, _), (1, _), (2, _)]) Z dX4_partedOf_63 rfl (Nat.le_of_ble_eq_true rfl) rfl ?_
            refine x_goto Z 8 dX4_partedOf_66 (by decide) ?_
            first | exact ih8 (e + 1) e (p + 1) (by omega) ⟨by omega, by omega, by omega, by omega, by omega, by omega, by rw [← hif]; exact (ptI_go (by omega) (by first | exact Or.inl (by omega) | exact Or.inr (inB_1 c36)) (by omega)).symm⟩ | exact ih8 (e + 1) g p (by omega) ⟨by omega, by omega, by omega, by omega, by omega, by omega, by rw [← hif]; exact (ptI_sk (by omega) (inB_0 c36)).symm⟩
          ·
            refine x_iconst Z dX4_partedOf_54 ?_
            exact x_iret Z E (⟨_, rfl, rfl, ⟨by omega, by omega⟩, by rw [← hif, ptI_no (by omega) (by first | exact Or.inl (by omega) | exact Or.inr (inB_1 c36)) (by omega)]⟩) dX4_partedOf_55 (Nat.le_of_ble_eq_true rfl) (Nat.le_of_ble_eq_true rfl)
        ·
          refine x_iload_n Z dX4_partedOf_30 rfl rfl ?_
          refine x_iload Z dX4_partedOf_31 rfl ?_
          refine x_ishr Z dX4_partedOf_33 ?_
          refine x_iconst Z dX4_partedOf_34 ?_
          refine x_iand Z dX4_partedOf_35 ?_
          have hb9 := bAnd1_in (bShr m e)
          refine x_if_ne Z 42 dX4_partedOf_36 (by decide) ⟨by omega, by omega⟩ (fun c36 => ?_) (fun c36 => ?_)
          ·
            refine x_aload_n Z dX4_partedOf_42 rfl rfl ?_
            refine x_iload_n Z dX4_partedOf_43 rfl rfl ?_
            refine x_iload Z dX4_partedOf_44 rfl ?_
            refine x_iload Z dX4_partedOf_46 rfl ?_
            refine x_callV (ci := 5) (C := RX4) (T := TX4) (N := 7) Z okX4_sortOf q1179 q1181 q21 rfl dX4_partedOf_48 (c_X4_sortOf h0 htr hS (by omega) (by omega) (by omega) (by omega) (by omega)) hS.1 ⟨Nat.le_of_ble_eq_true rfl, Nat.le_of_ble_eq_true rfl, Nat.le_of_ble_eq_true rfl, Nat.le_of_ble_eq_true rfl⟩ rfl rfl (Nat.le_of_ble_eq_true rfl) (fun v9 w9 hR => ?_)
            obtain ⟨rfl, e9⟩ := hR
            refine x_ew e9 ?_
            simp only [Option.toList_some, Option.toList_none, List.cons_append, List.nil_append]
            have hsi := srt_in (n := (S.2.1 t)) (C := (S.2.2.1 t)) (f := g) (e := e) (by omega) (by omega)
            have hsp := srt_p (n := (S.2.1 t)) (C := (S.2.2.1 t)) (f := g) (e := e) (by omega) (by omega)
            refine x_if_ge Z 56 dX4_partedOf_51 (by decide) ⟨by omega, by omega⟩ (fun c51 => ?_) (fun c51 => ?_)
            ·
              refine x_iinc (L' := [(3, _), (5, _), (4, _), (0, _), (1, _), (2, _)]) Z dX4_partedOf_56 rfl (Nat.le_of_ble_eq_true rfl) rfl ?_
              refine x_iload Z dX4_partedOf_59 rfl ?_
              refine x_istore (L' := [(4, _), (3, _), (5, _), (0, _), (1, _), (2, _)]) Z dX4_partedOf_61 (Nat.le_of_ble_eq_true rfl) rfl ?_
              refine x_iinc (L' := [(5, _), (4, _), (3, _), (0, _), (1, _), (2, _)]) Z dX4_partedOf_63 rfl (Nat.le_of_ble_eq_true rfl) rfl ?_
              refine x_goto Z 8 dX4_partedOf_66 (by decide) ?_
              first | exact ih8 (e + 1) e (p + 1) (by omega) ⟨by omega, by omega, by omega, by omega, by omega, by omega, by rw [← hif]; exact (ptI_go (by omega) (by first | exact Or.inl (by omega) | exact Or.inr (inB_1 c36)) (by omega)).symm⟩ | exact ih8 (e + 1) g p (by omega) ⟨by omega, by omega, by omega, by omega, by omega, by omega, by rw [← hif]; exact (ptI_sk (by omega) (inB_0 c36)).symm⟩
            ·
              refine x_iconst Z dX4_partedOf_54 ?_
              exact x_iret Z E (⟨_, rfl, rfl, ⟨by omega, by omega⟩, by rw [← hif, ptI_no (by omega) (by first | exact Or.inl (by omega) | exact Or.inr (inB_1 c36)) (by omega)]⟩) dX4_partedOf_55 (Nat.le_of_ble_eq_true rfl) (Nat.le_of_ble_eq_true rfl)
          ·
            refine x_goto Z 63 dX4_partedOf_39 (by decide) ?_
            refine x_iinc (L' := [(5, _), (4, _), (3, _), (0, _), (1, _), (2, _)]) Z dX4_partedOf_63 rfl (Nat.le_of_ble_eq_true rfl) rfl ?_
            refine x_goto Z 8 dX4_partedOf_66 (by decide) ?_
            first | exact ih8 (e + 1) e (p + 1) (by omega) ⟨by omega, by omega, by omega, by omega, by omega, by omega, by rw [← hif]; exact (ptI_go (by omega) (by first | exact Or.inl (by omega) | exact Or.inr (inB_1 c36)) (by omega)).symm⟩ | exact ih8 (e + 1) g p (by omega) ⟨by omega, by omega, by omega, by omega, by omega, by omega, by rw [← hif]; exact (ptI_sk (by omega) (inB_0 c36)).symm⟩
  exact loop8 40 1 0 0 (by omega) ⟨by omega, by omega, by omega, by omega, by omega, by omega, rfl⟩
abbrev rmc_X4_faultOf : Room := { frames := 3, cells := 0, slots := 0, locals := 66 }
set_option maxRecDepth 100000 in
theorem c_X4_faultOf {l : Launch} {s0 : State} {G : gK} {w : wd} (h0 : gS0 s0) (htr : l.stackTraces = false) {R : rA} {S : rM} {t : Int} (hS : rS G w R S) (t0 : 0 ≤ t) (t3 : t < 3) : gM l s0 G yX4_faultOf [Cond.code yX4_faultOf cX4_faultOf 3 (some .int)] rmc_X4_faultOf [rv R.1, iv t] w (fun v w' => v = some (iv (if findI (fun j => !so (S.2.2.1 t j) (cond (decide (j = 0)) 11 12)) 0 (S.2.1 t) < S.2.1 t then findI (fun j => !so (S.2.2.1 t j) (cond (decide (j = 0)) 11 12)) 0 (S.2.1 t) else if S.2.1 t = 0 then 0 else -1)) ∧ w' = w) (noX) := by
  refine g_of h0 htr (by decide +kernel) (Nat.le_of_ble_eq_true rfl) ?_
  intro b Z0 E
  have Z : gAm b l s0 G cX4_faultOf RX4 3 rmc_X4_faultOf := Z0
  refine x_el (L' := [(0, rv R.1), (1, iv t)]) rfl ?_
  obtain ⟨hr1, hr2, ⟨f3, hr3, hf3⟩, hr4, hr5, hr6⟩ := id hS
  obtain ⟨hrt, hn0, hn30, hC⟩ := hr5 t (by omega) (by omega)
  refine x_iconst Z dX4_faultOf_0 ?_
  refine x_istore_n (L' := [(2, _), (0, _), (1, _)]) Z dX4_faultOf_1 rfl (Nat.le_of_ble_eq_true rfl) rfl ?_
  have loop2 : ∀ (fu : Nat) (i : Int), (S.2.1 t) - i < (fu : Int) → (0 ≤ i ∧ i ≤ (S.2.1 t) ∧ findI (fun j => !so (S.2.2.1 t j) (cond (decide (j = 0)) 11 12)) i (S.2.1 t) = findI (fun j => !so (S.2.2.1 t j) (cond (decide (j = 0)) 11 12)) 0 (S.2.1 t)) → gX b s0 G (0) (0) 2 [(2, iv i), (0, rv R.1), (1, iv t)] [] (w) := by
    intro fu; induction fu with
    | zero => intro i hm hv; exact absurd hm (by omega)
    | succ fu ih2 =>
      intro i hm hv
      obtain ⟨hi0, hin, hif⟩ := hv
      have hCi := hC i
      refine x_iload_n Z dX4_faultOf_2 rfl rfl ?_
      refine x_aload_n Z dX4_faultOf_3 rfl rfl ?_
      refine x_getf (ci := 5) (j := 2) (C := RX4) (T := TX4) (N := 7) Z inX4g rfl (by decide) q1043 rfl dX4_faultOf_4 (by assumption) rfl ?_
      refine x_iload_n Z dX4_faultOf_7 rfl rfl ?_
      refine x_iald Z dX4_faultOf_8 (by assumption) (by omega) (by omega) (by omega) ?_
      refine x_icmp_ge Z 46 dX4_faultOf_9 (by decide) ⟨by omega, by omega⟩ ⟨by omega, by omega⟩ (fun c9 => ?_) (fun c9 => ?_)
      ·
        refine x_aload_n Z dX4_faultOf_46 rfl rfl ?_
        refine x_getf (ci := 5) (j := 2) (C := RX4) (T := TX4) (N := 7) Z inX4g rfl (by decide) q1043 rfl dX4_faultOf_47 (by assumption) rfl ?_
        refine x_iload_n Z dX4_faultOf_50 rfl rfl ?_
        refine x_iald Z dX4_faultOf_51 (by assumption) (by omega) (by omega) (by omega) ?_
        refine x_if_ne Z 59 dX4_faultOf_52 (by decide) ⟨by omega, by omega⟩ (fun c52 => ?_) (fun c52 => ?_)
        ·
          refine x_iconst Z dX4_faultOf_59 ?_
          exact x_iret Z E (⟨by rw [← hif, findI_e (by omega), if_neg (by omega)]; first | rw [if_pos (by omega)] | rw [if_neg (by omega)], rfl⟩) dX4_faultOf_60 (Nat.le_of_ble_eq_true rfl) (Nat.le_of_ble_eq_true rfl)
        ·
          refine x_iconst Z dX4_faultOf_55 ?_
          refine x_goto Z 60 dX4_faultOf_56 (by decide) ?_
          exact x_iret Z E (⟨by rw [← hif, findI_e (by omega), if_neg (by omega)]; first | rw [if_pos (by omega)] | rw [if_neg (by omega)], rfl⟩) dX4_faultOf_60 (Nat.le_of_ble_eq_true rfl) (Nat.le_of_ble_eq_true rfl)
      ·
        have join32 : ∀ (q : Int), q = cond (decide (i = 0)) 11 12 → gX b s0 G (0) (0) 32 [(2, iv i), (0, rv R.1), (1, iv t)] [iv q, iv (S.2.2.1 t i), rv R.1] (w) := by
          intro q hv
          have hq9 : 0 ≤ q ∧ q ≤ 13 := by { rw [hv]; cases decide (i = 0) <;> decide }
          refine x_callV (ci := 5) (C := RX4) (T := TX4) (N := 7) Z okX4_isSo q1145 q1147 q17 rfl dX4_faultOf_32 (c_X4_isSo h0 htr hS (by omega) (by omega) (by omega) (by omega)) hS.1 ⟨Nat.le_of_ble_eq_true rfl, Nat.le_of_ble_eq_true rfl, Nat.le_of_ble_eq_true rfl, Nat.le_of_ble_eq_true rfl⟩ rfl rfl (Nat.le_of_ble_eq_true rfl) (fun v9 w9 hR => ?_)
          obtain ⟨rfl, e9⟩ := hR
          refine x_ew e9 ?_
          simp only [Option.toList_some, Option.toList_none, List.cons_append, List.nil_append]
          refine x_ifb_ne Z 40 dX4_faultOf_35 (by decide) (fun c35 => ?_) (fun c35 => ?_)
          ·
            refine x_iinc (L' := [(2, _), (0, _), (1, _)]) Z dX4_faultOf_40 rfl (Nat.le_of_ble_eq_true rfl) rfl ?_
            refine x_goto Z 2 dX4_faultOf_43 (by decide) ?_
            exact ih2 (i + 1) (by omega) ⟨by omega, by omega, by rw [← hif]; exact (findI_m (by omega) (by show (!so (S.2.2.1 t i) (cond (decide (i = 0)) 11 12)) = false; rw [← hv, c35]; rfl)).symm⟩
          ·
            refine x_iload_n Z dX4_faultOf_38 rfl rfl ?_
            have hh : findI (fun j => !so (S.2.2.1 t j) (cond (decide (j = 0)) 11 12)) 0 (S.2.1 t) = i := by { rw [← hif]; exact findI_h (by show (!so (S.2.2.1 t i) (cond (decide (i = 0)) 11 12)) = true; rw [← hv, c35]; rfl) }
            exact x_iret Z E (⟨by rw [hh, if_pos (by omega)], rfl⟩) dX4_faultOf_39 (Nat.le_of_ble_eq_true rfl) (Nat.le_of_ble_eq_true rfl)
        refine x_aload_n Z dX4_faultOf_12 rfl rfl ?_
        refine x_aload_n Z dX4_faultOf_13 rfl rfl ?_
        refine x_getf (ci := 5) (j := 1) (C := RX4) (T := TX4) (N := 7) Z inX4g rfl (by decide) q1042 rfl dX4_faultOf_14 (by assumption) rfl ?_
        refine x_iload_n Z dX4_faultOf_17 rfl rfl ?_
        refine x_aaldR Z dX4_faultOf_18 hr3 (by decide) (by omega) (by omega) (hf3 t (by omega) (by omega)) ?_
        refine x_iload_n Z dX4_faultOf_19 rfl rfl ?_
        refine x_iald Z dX4_faultOf_20 (by assumption) (by omega) (by omega) (by omega) ?_
        refine x_iload_n Z dX4_faultOf_21 rfl rfl ?_
        refine x_if_ne Z 30 dX4_faultOf_22 (by decide) ⟨by omega, by omega⟩ (fun c22 => ?_) (fun c22 => ?_)
        ·
          refine x_bipush Z dX4_faultOf_30 (by decide +kernel) ?_
          exact join32 _ (by first | (rw [decide_eq_true c22]; rfl) | (rw [decide_eq_false c22]; rfl))
        ·
          refine x_bipush Z dX4_faultOf_25 (by decide +kernel) ?_
          refine x_goto Z 32 dX4_faultOf_27 (by decide) ?_
          exact join32 _ (by first | (rw [decide_eq_true c22]; rfl) | (rw [decide_eq_false c22]; rfl))
  exact loop2 40 0 (by omega) ⟨by omega, by omega, rfl⟩
abbrev rmc_X4_isNameNow : Room := { frames := 5, cells := 0, slots := 0, locals := 114 }
set_option maxRecDepth 100000 in
theorem c_X4_isNameNow {l : Launch} {s0 : State} {G : gK} {w : wd} (h0 : gS0 s0) (htr : l.stackTraces = false) {R : rA} {S : rM} {t : Int} (hS : rS G w R S) (t0 : 0 ≤ t) (t3 : t < 3) : gM l s0 G yX4_isNameNow [Cond.code yX4_isNameNow cX4_isNameNow 2 (some .boolean)] rmc_X4_isNameNow [rv R.1, iv t] w (fun v w' => v = some (iv (b2 (decide (0 < S.2.1 t ∧ sb (S.2.2.1 t 0) = 0 ∧ lon (S.2.1 t) (S.2.2.1 t) 0 = S.2.1 t)))) ∧ w' = w) (noX) := by
  refine g_of h0 htr (by decide +kernel) (Nat.le_of_ble_eq_true rfl) ?_
  intro b Z0 E
  have Z : gAm b l s0 G cX4_isNameNow RX4 2 rmc_X4_isNameNow := Z0
  refine x_el (L' := [(0, rv R.1), (1, iv t)]) rfl ?_
  obtain ⟨hr1, hr2, ⟨f3, hr3, hf3⟩, hr4, hr5, hr6⟩ := id hS
  obtain ⟨hrt, hn0, hn30, hC⟩ := hr5 t (by omega) (by omega)
  have hCz := hC 0
  refine x_aload_n Z dX4_isNameNow_0 rfl rfl ?_
  refine x_getf (ci := 5) (j := 2) (C := RX4) (T := TX4) (N := 7) Z inX4g rfl (by decide) q1043 rfl dX4_isNameNow_1 (by assumption) rfl ?_
  refine x_iload_n Z dX4_isNameNow_4 rfl rfl ?_
  refine x_iald Z dX4_isNameNow_5 (by assumption) (by omega) (by omega) (by omega) ?_
  refine x_if_le Z 28 dX4_isNameNow_6 (by decide) ⟨by omega, by omega⟩ (fun c6 => ?_) (fun c6 => ?_)
  ·
    refine x_ib false Z dX4_isNameNow_28 (by decide) ?_
    exact x_zret Z E (⟨by first | (rw [decide_eq_true ⟨by omega, hs0.mp c21⟩]; done) | (rw [decide_eq_false (fun h => c21 (hs0.mpr h.2))]; done) | (rw [decide_eq_false (fun h => by omega)]; done), rfl⟩) dX4_isNameNow_29 (Nat.le_of_ble_eq_true rfl) (Nat.le_of_ble_eq_true rfl)
  ·
    refine x_aload_n Z dX4_isNameNow_9 rfl rfl ?_
    refine x_iload_n Z dX4_isNameNow_10 rfl rfl ?_
    refine x_iconst Z dX4_isNameNow_11 ?_
    refine x_aload_n Z dX4_isNameNow_12 rfl rfl ?_
    refine x_getf (ci := 5) (j := 2) (C := RX4) (T := TX4) (N := 7) Z inX4g rfl (by decide) q1043 rfl dX4_isNameNow_13 (by assumption) rfl ?_
    refine x_iload_n Z dX4_isNameNow_16 rfl rfl ?_
    refine x_iald Z dX4_isNameNow_17 (by assumption) (by omega) (by omega) (by omega) ?_
    refine x_callV (ci := 5) (C := RX4) (T := TX4) (N := 7) Z okX4_sortOf q1179 q1181 q21 rfl dX4_isNameNow_18 (c_X4_sortOf h0 htr hS (by omega) (by omega) (by omega) (by omega) (by omega)) hS.1 ⟨Nat.le_of_ble_eq_true rfl, Nat.le_of_ble_eq_true rfl, Nat.le_of_ble_eq_true rfl, Nat.le_of_ble_eq_true rfl⟩ rfl rfl (Nat.le_of_ble_eq_true rfl) (fun v9 w9 hR => ?_)
    obtain ⟨rfl, e9⟩ := hR
    refine x_ew e9 ?_
    simp only [Option.toList_some, Option.toList_none, List.cons_append, List.nil_append]
    have hsi := srt_in (n := (S.2.1 t)) (C := (S.2.2.1 t)) (f := 0) (e := (S.2.1 t)) (by omega) (by omega)
    have hlo := lon_in (n := (S.2.1 t)) (C := (S.2.2.1 t)) (p := 0) (by omega)
    have hs0 : srt (S.2.1 t) (S.2.2.1 t) 0 (S.2.1 t) = 0 ↔ (sb ((S.2.2.1 t) 0) = 0 ∧ lon (S.2.1 t) (S.2.2.1 t) 0 = (S.2.1 t)) := by { have hb := sb_in ((S.2.2.1 t) 0); unfold srt; split <;> omega }
    refine x_if_ne Z 28 dX4_isNameNow_21 (by decide) ⟨by omega, by omega⟩ (fun c21 => ?_) (fun c21 => ?_)
    ·
      refine x_ib false Z dX4_isNameNow_28 (by decide) ?_
      exact x_zret Z E (⟨by first | (rw [decide_eq_true ⟨by omega, hs0.mp c21⟩]; done) | (rw [decide_eq_false (fun h => c21 (hs0.mpr h.2))]; done) | (rw [decide_eq_false (fun h => by omega)]; done), rfl⟩) dX4_isNameNow_29 (Nat.le_of_ble_eq_true rfl) (Nat.le_of_ble_eq_true rfl)
    ·
      refine x_ib true Z dX4_isNameNow_24 (by decide) ?_
      refine x_goto Z 29 dX4_isNameNow_25 (by decide) ?_
      exact x_zret Z E (⟨by first | (rw [decide_eq_true ⟨by omega, hs0.mp c21⟩]; done) | (rw [decide_eq_false (fun h => c21 (hs0.mpr h.2))]; done) | (rw [decide_eq_false (fun h => by omega)]; done), rfl⟩) dX4_isNameNow_29 (Nat.le_of_ble_eq_true rfl) (Nat.le_of_ble_eq_true rfl)
