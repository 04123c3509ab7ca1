/-! ref7: walks, by program -/
theorem q32 : Cond.selects RX4 yX4_partedOf yX4_partedOf ∈ gT := gt_s 32 rfl rfl
theorem q33 : Cond.selects RX4 yX4_houseNow yX4_houseNow ∈ gT := gt_s 33 rfl rfl
theorem q34 : Cond.selects RX4 yX4_isSoundNow yX4_isSoundNow ∈ gT := gt_s 34 rfl rfl
theorem q1220 : Cond.instanceMethod yX4_ofKind ∈ gT := gt_5 225 rfl rfl
theorem q1221 : Cond.selects RX4 yX4_ofKind yX4_ofKind ∈ gT := gt_5 226 rfl rfl
theorem q1222 : Cond.code yX4_ofKind cX4_ofKind 6 (some .int) ∈ gT := gt_5 227 rfl rfl
theorem q1366 : Cond.methodLink RX4 166 yX4_partedOf ∈ gT := gt_6 131 rfl rfl
theorem q1368 : Cond.instanceMethod yX4_partedOf ∈ gT := gt_6 133 rfl rfl
theorem q1369 : Cond.code yX4_partedOf cX4_partedOf 6 (some .int) ∈ gT := gt_6 134 rfl rfl
theorem q1374 : Cond.methodLink RX4 172 yX4_houseNow ∈ gT := gt_6 139 rfl rfl
theorem q1376 : Cond.instanceMethod yX4_houseNow ∈ gT := gt_6 141 rfl rfl
theorem q1377 : Cond.code yX4_houseNow cX4_houseNow 4 (some .int) ∈ gT := gt_6 142 rfl rfl
theorem q1386 : Cond.methodLink RX4 178 yX4_isSoundNow ∈ gT := gt_6 151 rfl rfl
theorem q1388 : Cond.instanceMethod yX4_isSoundNow ∈ gT := gt_6 153 rfl rfl
theorem q1389 : Cond.code yX4_isSoundNow cX4_isSoundNow 6 (some .boolean) ∈ gT := gt_6 154 rfl rfl
theorem q1390 : Cond.methodLink RX4 175 yX4_ofKind ∈ gT := gt_6 155 rfl rfl
theorem q1395 : Cond.constantLong RX4 182 8005 ∈ gT := gt_6 160 rfl rfl
theorem q1396 : Cond.constantLong RX4 184 31 ∈ gT := gt_6 161 rfl rfl
theorem okX4_partedOf : gOk yX4_partedOf cX4_partedOf 6 (some .int) 2 := ⟨q1369, q38, ⟨by decide +kernel, by decide +kernel⟩, by decide +kernel⟩
theorem okX4_houseNow : gOk yX4_houseNow cX4_houseNow 4 (some .int) 1 := ⟨q1377, q38, ⟨by decide +kernel, by decide +kernel⟩, by decide +kernel⟩
theorem okX4_ofKind : gOk yX4_ofKind cX4_ofKind 6 (some .int) 3 := ⟨q1222, q38, ⟨by decide +kernel, by decide +kernel⟩, by decide +kernel⟩
theorem okX4_isSoundNow : gOk yX4_isSoundNow cX4_isSoundNow 6 (some .boolean) 0 := ⟨q1389, q38, ⟨by decide +kernel, by decide +kernel⟩, by decide +kernel⟩
theorem bOr_b2 (p q : Bool) : bOr (b2 p) (b2 q) = b2 (p || q) := by cases p <;> cases q <;> decide +kernel
theorem bAnd_b2 (p q : Bool) : bAnd (b2 p) (b2 q) = b2 (p && q) := by cases p <;> cases q <;> decide +kernel
abbrev rmc_X4_parted : Room := { frames := 6, cells := 0, slots := 0, locals := 139 }
set_option maxRecDepth 100000 in
theorem c_X4_parted {l : Launch} {s0 : State} {G : gK} {w : wd} (h0 : gS0 s0) (htr : l.stackTraces = false) {R : rA} {S : rM} {t m : Int} (hS : rS G w R S) (hit : inr t) (him : inr m) : gM l s0 G yX4_parted [Cond.code yX4_parted cX4_parted 5 (some .int)] rmc_X4_parted [rv R.1, iv t, iv m] w (fun v w' => ∃ (z T : Int), v = some (iv z) ∧ rS G w' R (rT S T) ∧ fr (rP R S.1) w w' ∧ ((T = 1 ∧ ¬ (0 ≤ t ∧ t < 3)) ∨ (T = 2 ∧ (0 ≤ t ∧ t < 3) ∧ ¬ (cutS (S.2.1 t) m)) ∨ (T = 0 ∧ (0 ≤ t ∧ t < 3) ∧ (cutS (S.2.1 t) m) ∧ z = ptI (S.2.1 t) (S.2.2.1 t) m 1 0 0))) (noX) := by
  refine g_of h0 htr (by decide +kernel) (Nat.le_of_ble_eq_true rfl) ?_
  intro b Z0 E
  have Z : gAm b l s0 G cX4_parted RX4 5 rmc_X4_parted := Z0
  refine x_el (L' := [(0, rv R.1), (1, iv t), (2, iv m)]) rfl ?_
  obtain ⟨hr1, hr2, ⟨f3, hr3, hf3⟩, hr4, hr5, hr6⟩ := id hS
  have hf0 : fr (rP R S.1) w w := fr.rf
  have hz0 := inB_z him
  have join83 : ∀ (c1 c2 : Bool), ((c1 = true ↔ ¬ (0 ≤ t ∧ t < 3)) ∧ ((0 ≤ t ∧ t < 3) → (c2 = true ↔ ¬ cutS (S.2.1 t) m))) → gX b s0 G (0) (0) 83 [(0, rv R.1), (1, iv t), (2, iv m)] [iv (b2 c2), iv (b2 c1), rv R.1] (w) := by
    intro c1 c2 hv
    obtain ⟨hc1, hc2⟩ := hv
    refine x_callV (ci := 5) (C := RX4) (T := TX4) (N := 7) Z okX4_isThrown q1077 q1079 q11 rfl dX4_parted_83 (c_X4_isThrown h0 htr hS) hS.1 ⟨Nat.le_of_ble_eq_true rfl, Nat.le_of_ble_eq_true rfl, Nat.le_of_ble_eq_true rfl, Nat.le_of_ble_eq_true rfl⟩ rfl rfl (Nat.le_of_ble_eq_true rfl) (fun v9 w9 hR => ?_)
    obtain ⟨rfl, hS, hf9⟩ := hR
    have hf0 := hf0.tr hf9
    simp only [Option.toList_some, Option.toList_none, List.cons_append, List.nil_append]
    refine x_ifb_eq Z 93 dX4_parted_86 (by decide) (fun c86 => ?_) (fun c86 => ?_)
    ·
      obtain ⟨ea, ec⟩ := bor_f c86
      have o1 := bq_n hc1 ea
      have o2 := bq_n (hc2 o1) ec
      subst ea
      subst ec
      refine x_aload_n Z dX4_parted_93 rfl rfl ?_
      refine x_iload_n Z dX4_parted_94 rfl rfl ?_
      refine x_iload_n Z dX4_parted_95 rfl rfl ?_
      refine x_callV (ci := 5) (C := RX4) (T := TX4) (N := 7) Z okX4_partedOf q1366 q1368 q32 rfl dX4_parted_96 (c_X4_partedOf h0 htr hS (by omega) (by omega)) hS.1 ⟨Nat.le_of_ble_eq_true rfl, Nat.le_of_ble_eq_true rfl, Nat.le_of_ble_eq_true rfl, Nat.le_of_ble_eq_true rfl⟩ rfl rfl (Nat.le_of_ble_eq_true rfl) (fun v9 w9 hR => ?_)
      obtain ⟨z, rfl, e9, hz, hzp⟩ := hR
      refine x_ew e9 ?_
      simp only [Option.toList_some, Option.toList_none, List.cons_append, List.nil_append]
      exact x_iret Z E (by first | exact ⟨_, _, rfl, hS, hf0, thr3 hbad hc1 hc2⟩ | exact ⟨_, _, rfl, hS, hf0, Or.inr (Or.inr ⟨rfl, o1, o2, hzp⟩)⟩) dX4_parted_99 (Nat.le_of_ble_eq_true rfl) (Nat.le_of_ble_eq_true rfl)
    ·
      have hbad := c86
      refine x_iconst Z dX4_parted_89 ?_
      refine x_goto Z 99 dX4_parted_90 (by decide) ?_
      exact x_iret Z E (by first | exact ⟨_, _, rfl, hS, hf0, thr3 hbad hc1 hc2⟩ | exact ⟨_, _, rfl, hS, hf0, Or.inr (Or.inr ⟨rfl, o1, o2, hzp⟩)⟩) dX4_parted_99 (Nat.le_of_ble_eq_true rfl) (Nat.le_of_ble_eq_true rfl)
  have join16 : ∀ (q : Bool), (q = true ↔ (m < 0 ∨ inB m 0 = true)) → gX b s0 G (0) (0) 16 [(0, rv R.1), (1, iv t), (2, iv m)] [iv (b2 q)] (w) := by
    intro q hv
    refine x_istore_n (L' := [(3, _), (0, _), (1, _), (2, _)]) Z dX4_parted_16 rfl (Nat.le_of_ble_eq_true rfl) rfl ?_
    refine x_iconst Z dX4_parted_17 ?_
    refine x_istore (L' := [(4, _), (3, _), (0, _), (1, _), (2, _)]) Z dX4_parted_18 (Nat.le_of_ble_eq_true rfl) rfl ?_
    have loop20 : ∀ (fu : Nat) (i : Int) (o : Bool), 31 - i < (fu : Int) → (1 ≤ i ∧ i ≤ 31 ∧ ((0 ≤ t ∧ t < 3) → (o = true ↔ outS (S.2.1 t) m i))) → gX b s0 G (0) (0) 20 [(4, iv i), (3, iv (b2 o)), (0, rv R.1), (1, iv t), (2, iv m)] [] (w) := by
      intro fu; induction fu with
      | zero => intro i o hm hv; exact absurd hm (by omega)
      | succ fu ih20 =>
        intro i o hm hv
        obtain ⟨hi0, hin, ho⟩ := hv
        refine x_iload Z dX4_parted_20 rfl ?_
        refine x_bipush Z dX4_parted_22 (by decide +kernel) ?_
        refine x_icmp_ge Z 69 dX4_parted_24 (by decide) ⟨by omega, by omega⟩ ⟨by omega, by omega⟩ (fun c24 => ?_) (fun c24 => ?_)
        ·
          refine x_aload_n Z dX4_parted_69 rfl rfl ?_
          refine x_iload_n Z dX4_parted_70 rfl rfl ?_
          refine x_callS Z okX4_is q1071 q1072 dX4_parted_71 (c_X4_is h0 htr (by assumption)) ⟨Nat.le_of_ble_eq_true rfl, Nat.le_of_ble_eq_true rfl, Nat.le_of_ble_eq_true rfl, Nat.le_of_ble_eq_true rfl⟩ rfl rfl (Nat.le_of_ble_eq_true rfl) (fun v9 w9 hR => ?_)
          obtain ⟨o9, rfl, e9, hq⟩ := hR
          refine x_ew e9 ?_
          simp only [Option.toList_some, Option.toList_none, List.cons_append, List.nil_append]
          refine x_ifb_ne Z 81 dX4_parted_74 (by decide) (fun c74 => ?_) (fun c74 => ?_)
          ·
            have f74 := bq_t hq c74
            refine x_ib false Z dX4_parted_81 (by decide) ?_
            refine x_iload_n Z dX4_parted_82 rfl rfl ?_
            refine x_sub [2, 3, 4] rfl ?_
            exact join83 _ _ ⟨(by first | exact ⟨fun _ => by omega, fun _ => rfl⟩ | exact ⟨fun h => absurd h (by decide), fun h => (h (by omega)).elim⟩), fun h => by first | exact absurd h f31 | (have h9 := ho h; rw [show i = 31 by omega] at h9; exact h9.trans outS_iff)⟩
          ·
            have f74 := bq_f hq c74
            refine x_ib true Z dX4_parted_77 (by decide) ?_
            refine x_goto Z 82 dX4_parted_78 (by decide) ?_
            refine x_iload_n Z dX4_parted_82 rfl rfl ?_
            refine x_sub [2, 3, 4] rfl ?_
            exact join83 _ _ ⟨(by first | exact ⟨fun _ => by omega, fun _ => rfl⟩ | exact ⟨fun h => absurd h (by decide), fun h => (h (by omega)).elim⟩), fun h => by first | exact absurd h f31 | (have h9 := ho h; rw [show i = 31 by omega] at h9; exact h9.trans outS_iff)⟩
        ·
          refine x_iload_n Z dX4_parted_27 rfl rfl ?_
          refine x_callS Z okX4_is q1071 q1072 dX4_parted_28 (c_X4_is h0 htr (by assumption)) ⟨Nat.le_of_ble_eq_true rfl, Nat.le_of_ble_eq_true rfl, Nat.le_of_ble_eq_true rfl, Nat.le_of_ble_eq_true rfl⟩ rfl rfl (Nat.le_of_ble_eq_true rfl) (fun v9 w9 hR => ?_)
          obtain ⟨o9, rfl, e9, hq⟩ := hR
          refine x_ew e9 ?_
          simp only [Option.toList_some, Option.toList_none, List.cons_append, List.nil_append]
          refine x_ifb_eq Z 69 dX4_parted_31 (by decide) (fun c31 => ?_) (fun c31 => ?_)
          ·
            have f31 := bq_f hq c31
            refine x_aload_n Z dX4_parted_69 rfl rfl ?_
            refine x_iload_n Z dX4_parted_70 rfl rfl ?_
            refine x_callS Z okX4_is q1071 q1072 dX4_parted_71 (c_X4_is h0 htr (by assumption)) ⟨Nat.le_of_ble_eq_true rfl, Nat.le_of_ble_eq_true rfl, Nat.le_of_ble_eq_true rfl, Nat.le_of_ble_eq_true rfl⟩ rfl rfl (Nat.le_of_ble_eq_true rfl) (fun v9 w9 hR => ?_)
            obtain ⟨o9, rfl, e9, hq⟩ := hR
            refine x_ew e9 ?_
            simp only [Option.toList_some, Option.toList_none, List.cons_append, List.nil_append]
            refine x_ifb_ne Z 81 dX4_parted_74 (by decide) (fun c74 => ?_) (fun c74 => ?_)
            ·
              have f74 := bq_t hq c74
              refine x_ib false Z dX4_parted_81 (by decide) ?_
              refine x_iload_n Z dX4_parted_82 rfl rfl ?_
              refine x_sub [2, 3, 4] rfl ?_
              exact join83 _ _ ⟨(by first | exact ⟨fun _ => by omega, fun _ => rfl⟩ | exact ⟨fun h => absurd h (by decide), fun h => (h (by omega)).elim⟩), fun h => by first | exact absurd h f31 | (have h9 := ho h; rw [show i = 31 by omega] at h9; exact h9.trans outS_iff)⟩
            ·
              have f74 := bq_f hq c74
              refine x_ib true Z dX4_parted_77 (by decide) ?_
              refine x_goto Z 82 dX4_parted_78 (by decide) ?_
              refine x_iload_n Z dX4_parted_82 rfl rfl ?_
              refine x_sub [2, 3, 4] rfl ?_
              exact join83 _ _ ⟨(by first | exact ⟨fun _ => by omega, fun _ => rfl⟩ | exact ⟨fun h => absurd h (by decide), fun h => (h (by omega)).elim⟩), fun h => by first | exact absurd h f31 | (have h9 := ho h; rw [show i = 31 by omega] at h9; exact h9.trans outS_iff)⟩
          ·
            have f31 := bq_t hq c31
            refine x_iload_n Z dX4_parted_34 rfl rfl ?_
            refine x_iload_n Z dX4_parted_35 rfl rfl ?_
            refine x_iload Z dX4_parted_36 rfl ?_
            refine x_ishr Z dX4_parted_38 ?_
            refine x_iconst Z dX4_parted_39 ?_
            refine x_iand Z dX4_parted_40 ?_
            have hb8 := bAnd_in (bShr m i) 1
            refine x_iconst Z dX4_parted_41 ?_
            refine x_icmp_ne Z 60 dX4_parted_42 (by decide) ⟨by omega, by omega⟩ ⟨by omega, by omega⟩ (fun c42 => ?_) (fun c42 => ?_)
            ·
              refine x_ib false Z dX4_parted_60 (by decide) ?_
              refine x_ior Z dX4_parted_61 ?_
              refine x_tp (bOr_b2 _ _) ?_
              refine x_istore_n (L' := [(3, _), (4, _), (0, _), (1, _), (2, _)]) Z dX4_parted_62 rfl (Nat.le_of_ble_eq_true rfl) rfl ?_
              refine x_iinc (L' := [(4, _), (3, _), (0, _), (1, _), (2, _)]) Z dX4_parted_63 rfl (Nat.le_of_ble_eq_true rfl) rfl ?_
              refine x_goto Z 20 dX4_parted_66 (by decide) ?_
              first | exact ih20 (i + 1) _ (by omega) ⟨by omega, by omega, fun h => outS_t (by omega) (inB_1' c42) (by omega)⟩ | exact ih20 (i + 1) _ (by omega) ⟨by omega, by omega, fun h => outS_f (ho h) (Or.inl (inB_0' c42))⟩ | exact ih20 (i + 1) _ (by omega) ⟨by omega, by omega, fun h => outS_f (ho h) (Or.inr (by omega))⟩
            ·
              refine x_iload Z dX4_parted_45 rfl ?_
              obtain ⟨hrt, hn0, hn30, hC⟩ := hr5 t (by omega) (by omega)
              refine x_aload_n Z dX4_parted_47 rfl rfl ?_
              refine x_getf (ci := 5) (j := 2) (C := RX4) (T := TX4) (N := 7) Z inX4g rfl (by decide) q1043 rfl dX4_parted_48 (by assumption) rfl ?_
              refine x_iload_n Z dX4_parted_51 rfl rfl ?_
              refine x_iald Z dX4_parted_52 (by assumption) (by omega) (by omega) (by omega) ?_
              refine x_icmp_lt Z 60 dX4_parted_53 (by decide) ⟨by omega, by omega⟩ ⟨by omega, by omega⟩ (fun c53 => ?_) (fun c53 => ?_)
              ·
                refine x_ib false Z dX4_parted_60 (by decide) ?_
                refine x_ior Z dX4_parted_61 ?_
                refine x_tp (bOr_b2 _ _) ?_
                refine x_istore_n (L' := [(3, _), (4, _), (0, _), (1, _), (2, _)]) Z dX4_parted_62 rfl (Nat.le_of_ble_eq_true rfl) rfl ?_
                refine x_iinc (L' := [(4, _), (3, _), (0, _), (1, _), (2, _)]) Z dX4_parted_63 rfl (Nat.le_of_ble_eq_true rfl) rfl ?_
                refine x_goto Z 20 dX4_parted_66 (by decide) ?_
                first | exact ih20 (i + 1) _ (by omega) ⟨by omega, by omega, fun h => outS_t (by omega) (inB_1' c42) (by omega)⟩ | exact ih20 (i + 1) _ (by omega) ⟨by omega, by omega, fun h => outS_f (ho h) (Or.inl (inB_0' c42))⟩ | exact ih20 (i + 1) _ (by omega) ⟨by omega, by omega, fun h => outS_f (ho h) (Or.inr (by omega))⟩
              ·
                refine x_ib true Z dX4_parted_56 (by decide) ?_
                refine x_goto Z 61 dX4_parted_57 (by decide) ?_
                refine x_ior Z dX4_parted_61 ?_
                refine x_tp (bOr_b2 _ _) ?_
                refine x_istore_n (L' := [(3, _), (4, _), (0, _), (1, _), (2, _)]) Z dX4_parted_62 rfl (Nat.le_of_ble_eq_true rfl) rfl ?_
                refine x_iinc (L' := [(4, _), (3, _), (0, _), (1, _), (2, _)]) Z dX4_parted_63 rfl (Nat.le_of_ble_eq_true rfl) rfl ?_
                refine x_goto Z 20 dX4_parted_66 (by decide) ?_
                first | exact ih20 (i + 1) _ (by omega) ⟨by omega, by omega, fun h => outS_t (by omega) (inB_1' c42) (by omega)⟩ | exact ih20 (i + 1) _ (by omega) ⟨by omega, by omega, fun h => outS_f (ho h) (Or.inl (inB_0' c42))⟩ | exact ih20 (i + 1) _ (by omega) ⟨by omega, by omega, fun h => outS_f (ho h) (Or.inr (by omega))⟩
    exact loop20 40 1 _ (by omega) ⟨by omega, by omega, fun _ => hv.trans outS_1.symm⟩
  refine x_iload_n Z dX4_parted_0 rfl rfl ?_
  refine x_if_lt Z 11 dX4_parted_1 (by decide) ⟨by omega, by omega⟩ (fun c1 => ?_) (fun c1 => ?_)
  ·
    refine x_ib true Z dX4_parted_11 (by decide) ?_
    refine x_goto Z 16 dX4_parted_12 (by decide) ?_
    exact join16 _ (by first | exact ⟨fun _ => Or.inl (by omega), fun _ => rfl⟩ | exact ⟨fun _ => Or.inr (hz0.mpr c8), fun _ => rfl⟩ | exact ⟨fun h => absurd h (by decide), fun h => h.elim (fun a => absurd a (by omega)) (fun a => absurd (hz0.mp a) c8)⟩)
  ·
    refine x_iload_n Z dX4_parted_4 rfl rfl ?_
    refine x_iconst Z dX4_parted_5 ?_
    refine x_iand Z dX4_parted_6 ?_
    have hb9 := bAnd_in m 1
    refine x_iconst Z dX4_parted_7 ?_
    refine x_icmp_ne Z 15 dX4_parted_8 (by decide) ⟨by omega, by omega⟩ ⟨by omega, by omega⟩ (fun c8 => ?_) (fun c8 => ?_)
    ·
      refine x_ib false Z dX4_parted_15 (by decide) ?_
      exact join16 _ (by first | exact ⟨fun _ => Or.inl (by omega), fun _ => rfl⟩ | exact ⟨fun _ => Or.inr (hz0.mpr c8), fun _ => rfl⟩ | exact ⟨fun h => absurd h (by decide), fun h => h.elim (fun a => absurd a (by omega)) (fun a => absurd (hz0.mp a) c8)⟩)
    ·
      refine x_ib true Z dX4_parted_11 (by decide) ?_
      refine x_goto Z 16 dX4_parted_12 (by decide) ?_
      exact join16 _ (by first | exact ⟨fun _ => Or.inl (by omega), fun _ => rfl⟩ | exact ⟨fun _ => Or.inr (hz0.mpr c8), fun _ => rfl⟩ | exact ⟨fun h => absurd h (by decide), fun h => h.elim (fun a => absurd a (by omega)) (fun a => absurd (hz0.mp a) c8)⟩)
abbrev rmc_X4_houseNow : Room := { frames := 6, cells := 0, slots := 0, locals := 135 }
set_option maxRecDepth 100000 in
theorem c_X4_houseNow {l : Launch} {s0 : State} {G : gK} {w : wd} (h0 : gS0 s0) (htr : l.stackTraces = false) {R : rA} {S : rM} {m : Int} (hS : rS G w R S) (m0 : 0 ≤ m) (m4 : m ≤ 4) : gM l s0 G yX4_houseNow [Cond.code yX4_houseNow cX4_houseNow 4 (some .int)] rmc_X4_houseNow [rv R.1, iv m] w (fun v w' => v = some (iv ((if m = 0 then 0 + S.2.1 0 + S.2.1 1 + S.2.1 2 else if m = 1 then S.2.2.2.1 else if m = 2 then S.2.2.2.2.1 else if m = 3 then S.2.2.2.2.2.1 else forI (cst (fun i => decide (0 < S.2.1 i ∧ sb (S.2.2.1 i 0) = 0 ∧ lon (S.2.1 i) (S.2.2.1 i) 0 = S.2.1 i))) 0 3 0))) ∧ w' = w) (noX) := by
  refine g_of h0 htr (by decide +kernel) (Nat.le_of_ble_eq_true rfl) ?_
  intro b Z0 E
  have Z : gAm b l s0 G cX4_houseNow RX4 4 rmc_X4_houseNow := Z0
  refine x_el (L' := [(0, rv R.1), (1, iv m)]) rfl ?_
  obtain ⟨hr1, hr2, ⟨f3, hr3, hf3⟩, hr4, hr5, hr6⟩ := id hS
  have join38 : ∀ (_ : Unit), (m = 0 ∨ m = 4) → gX b s0 G (0) (0) 38 [(0, rv R.1), (1, iv m)] [] (w) := by
    intro _ hv
    have hm9 := hv
    refine x_iconst Z dX4_houseNow_38 ?_
    refine x_istore_n (L' := [(2, _), (0, _), (1, _)]) Z dX4_houseNow_39 rfl (Nat.le_of_ble_eq_true rfl) rfl ?_
    refine x_iconst Z dX4_houseNow_40 ?_
    refine x_istore_n (L' := [(3, _), (2, _), (0, _), (1, _)]) Z dX4_houseNow_41 rfl (Nat.le_of_ble_eq_true rfl) rfl ?_
    have loop42 : ∀ (fu : Nat) (i v : Int), 3 - i < (fu : Int) → (0 ≤ i ∧ i ≤ 3 ∧ (m = 0 → v = (if i = 0 then 0 else if i = 1 then 0 + S.2.1 0 else if i = 2 then 0 + S.2.1 0 + S.2.1 1 else 0 + S.2.1 0 + S.2.1 1 + S.2.1 2)) ∧ (m = 4 → forI (cst (fun i => decide (0 < S.2.1 i ∧ sb (S.2.2.1 i 0) = 0 ∧ lon (S.2.1 i) (S.2.2.1 i) 0 = S.2.1 i))) i 3 v = forI (cst (fun i => decide (0 < S.2.1 i ∧ sb (S.2.2.1 i 0) = 0 ∧ lon (S.2.1 i) (S.2.2.1 i) 0 = S.2.1 i))) 0 3 0)) → gX b s0 G (0) (0) 42 [(3, iv i), (2, iv v), (0, rv R.1), (1, iv m)] [] (w) := by
      intro fu; induction fu with
      | zero => intro i v hm hv; exact absurd hm (by omega)
      | succ fu ih42 =>
        intro i v hm hv
        obtain ⟨hi0, hin, hv0, hv4⟩ := hv
        refine x_iload_n Z dX4_houseNow_42 rfl rfl ?_
        refine x_iconst Z dX4_houseNow_43 ?_
        refine x_icmp_ge Z 82 dX4_houseNow_44 (by decide) ⟨by omega, by omega⟩ ⟨by omega, by omega⟩ (fun c44 => ?_) (fun c44 => ?_)
        ·
          refine x_iload_n Z dX4_houseNow_82 rfl rfl ?_
          have hval : v = (if m = 0 then 0 + S.2.1 0 + S.2.1 1 + S.2.1 2 else if m = 1 then S.2.2.2.1 else if m = 2 then S.2.2.2.2.1 else if m = 3 then S.2.2.2.2.2.1 else forI (cst (fun i => decide (0 < S.2.1 i ∧ sb (S.2.2.1 i 0) = 0 ∧ lon (S.2.1 i) (S.2.2.1 i) 0 = S.2.1 i))) 0 3 0) := by { rcases hm9 with h | h; rw [if_pos h, hv0 h, show i = 3 by omega]; rfl; rw [if_neg (by omega), if_neg (by omega), if_neg (by omega), if_neg (by omega), ← hv4 h, forI_e (by omega)] }
          exact x_iret Z E (⟨by rw [hval], rfl⟩) dX4_houseNow_83 (Nat.le_of_ble_eq_true rfl) (Nat.le_of_ble_eq_true rfl)
        ·
          refine x_iload_n Z dX4_houseNow_47 rfl rfl ?_
          refine x_iload_n Z dX4_houseNow_48 rfl rfl ?_
          refine x_if_ne Z 61 dX4_houseNow_49 (by decide) ⟨by omega, by omega⟩ (fun c49 => ?_) (fun c49 => ?_)
          ·
            refine x_aload_n Z dX4_houseNow_61 rfl rfl ?_
            refine x_iload_n Z dX4_houseNow_62 rfl rfl ?_
            have ⟨_, hn0, hn30, _⟩ := hr5 i (by omega) (by omega)
            refine x_callV (ci := 5) (C := RX4) (T := TX4) (N := 7) Z okX4_isNameNow q1301 q1303 q26 rfl dX4_houseNow_63 (c_X4_isNameNow h0 htr hS (by omega) (by omega)) hS.1 ⟨Nat.le_of_ble_eq_true rfl, Nat.le_of_ble_eq_true rfl, Nat.le_of_ble_eq_true rfl, Nat.le_of_ble_eq_true rfl⟩ rfl rfl (Nat.le_of_ble_eq_true rfl) (fun v9 w9 hR => ?_)
            obtain ⟨rfl, e9⟩ := hR
            refine x_ew e9 ?_
            simp only [Option.toList_some, Option.toList_none, List.cons_append, List.nil_append]
            refine x_ifb_eq Z 73 dX4_houseNow_66 (by decide) (fun c66 => ?_) (fun c66 => ?_)
            ·
              refine x_ib false Z dX4_houseNow_73 (by decide) ?_
              refine x_iadd Z dX4_houseNow_74 ?_
              refine x_istore_n (L' := [(2, _), (3, _), (0, _), (1, _)]) Z dX4_houseNow_75 rfl (Nat.le_of_ble_eq_true rfl) rfl ?_
              refine x_iinc (L' := [(3, _), (2, _), (0, _), (1, _)]) Z dX4_houseNow_76 rfl (Nat.le_of_ble_eq_true rfl) rfl ?_
              refine x_goto Z 42 dX4_houseNow_79 (by decide) ?_
              first | exact ih42 (i + 1) (v + 1) (by omega) ⟨by omega, by omega, fun h => absurd h c49, fun h => by rw [← hv4 h, forI_s (i := i) (by omega), cst_t (P := (fun i => decide (0 < S.2.1 i ∧ sb (S.2.2.1 i 0) = 0 ∧ lon (S.2.1 i) (S.2.2.1 i) 0 = S.2.1 i))) c66]⟩ | exact ih42 (i + 1) (v + 0) (by omega) ⟨by omega, by omega, fun h => absurd h c49, fun h => by rw [← hv4 h, forI_s (i := i) (by omega), cst_f (P := (fun i => decide (0 < S.2.1 i ∧ sb (S.2.2.1 i 0) = 0 ∧ lon (S.2.1 i) (S.2.2.1 i) 0 = S.2.1 i))) c66, Int.add_zero]⟩ | exact ih42 (i + 1) _ (by omega) ⟨by omega, by omega, fun h => by rcases (by omega : i = 0 ∨ i = 1 ∨ i = 2) with e | e | e <;> subst e <;> rw [hv0 h] <;> rfl, fun h => by omega⟩
            ·
              refine x_ib true Z dX4_houseNow_69 (by decide) ?_
              refine x_goto Z 74 dX4_houseNow_70 (by decide) ?_
              refine x_iadd Z dX4_houseNow_74 ?_
              refine x_istore_n (L' := [(2, _), (3, _), (0, _), (1, _)]) Z dX4_houseNow_75 rfl (Nat.le_of_ble_eq_true rfl) rfl ?_
              refine x_iinc (L' := [(3, _), (2, _), (0, _), (1, _)]) Z dX4_houseNow_76 rfl (Nat.le_of_ble_eq_true rfl) rfl ?_
              refine x_goto Z 42 dX4_houseNow_79 (by decide) ?_
              first | exact ih42 (i + 1) (v + 1) (by omega) ⟨by omega, by omega, fun h => absurd h c49, fun h => by rw [← hv4 h, forI_s (i := i) (by omega), cst_t (P := (fun i => decide (0 < S.2.1 i ∧ sb (S.2.2.1 i 0) = 0 ∧ lon (S.2.1 i) (S.2.2.1 i) 0 = S.2.1 i))) c66]⟩ | exact ih42 (i + 1) (v + 0) (by omega) ⟨by omega, by omega, fun h => absurd h c49, fun h => by rw [← hv4 h, forI_s (i := i) (by omega), cst_f (P := (fun i => decide (0 < S.2.1 i ∧ sb (S.2.2.1 i 0) = 0 ∧ lon (S.2.1 i) (S.2.2.1 i) 0 = S.2.1 i))) c66, Int.add_zero]⟩ | exact ih42 (i + 1) _ (by omega) ⟨by omega, by omega, fun h => by rcases (by omega : i = 0 ∨ i = 1 ∨ i = 2) with e | e | e <;> subst e <;> rw [hv0 h] <;> rfl, fun h => by omega⟩
          ·
            refine x_aload_n Z dX4_houseNow_52 rfl rfl ?_
            refine x_getf (ci := 5) (j := 2) (C := RX4) (T := TX4) (N := 7) Z inX4g rfl (by decide) q1043 rfl dX4_houseNow_53 (by assumption) rfl ?_
            refine x_iload_n Z dX4_houseNow_56 rfl rfl ?_
            have ⟨_, hn0, hn30, _⟩ := hr5 i (by omega) (by omega)
            refine x_iald Z dX4_houseNow_57 (by assumption) (by omega) (by omega) (by omega) ?_
            refine x_goto Z 74 dX4_houseNow_58 (by decide) ?_
            refine x_iadd Z dX4_houseNow_74 ?_
            refine x_istore_n (L' := [(2, _), (3, _), (0, _), (1, _)]) Z dX4_houseNow_75 rfl (Nat.le_of_ble_eq_true rfl) rfl ?_
            refine x_iinc (L' := [(3, _), (2, _), (0, _), (1, _)]) Z dX4_houseNow_76 rfl (Nat.le_of_ble_eq_true rfl) rfl ?_
            refine x_goto Z 42 dX4_houseNow_79 (by decide) ?_
            first | exact ih42 (i + 1) (v + 1) (by omega) ⟨by omega, by omega, fun h => absurd h c49, fun h => by rw [← hv4 h, forI_s (i := i) (by omega), cst_t (P := (fun i => decide (0 < S.2.1 i ∧ sb (S.2.2.1 i 0) = 0 ∧ lon (S.2.1 i) (S.2.2.1 i) 0 = S.2.1 i))) c66]⟩ | exact ih42 (i + 1) (v + 0) (by omega) ⟨by omega, by omega, fun h => absurd h c49, fun h => by rw [← hv4 h, forI_s (i := i) (by omega), cst_f (P := (fun i => decide (0 < S.2.1 i ∧ sb (S.2.2.1 i 0) = 0 ∧ lon (S.2.1 i) (S.2.2.1 i) 0 = S.2.1 i))) c66, Int.add_zero]⟩ | exact ih42 (i + 1) _ (by omega) ⟨by omega, by omega, fun h => by rcases (by omega : i = 0 ∨ i = 1 ∨ i = 2) with e | e | e <;> subst e <;> rw [hv0 h] <;> rfl, fun h => by omega⟩
    exact loop42 5 0 0 (by omega) ⟨by omega, by omega, fun _ => rfl, fun _ => rfl⟩
  refine x_iload_n Z dX4_houseNow_0 rfl rfl ?_
  refine x_if_le Z 38 dX4_houseNow_1 (by decide) ⟨by omega, by omega⟩ (fun c1 => ?_) (fun c1 => ?_)
  ·
    exact join38 () (by omega)
  ·
    refine x_iload_n Z dX4_houseNow_4 rfl rfl ?_
    refine x_iconst Z dX4_houseNow_5 ?_
    refine x_icmp_ge Z 38 dX4_houseNow_6 (by decide) ⟨by omega, by omega⟩ ⟨by omega, by omega⟩ (fun c6 => ?_) (fun c6 => ?_)
    ·
      exact join38 () (by omega)
    ·
      refine x_iload_n Z dX4_houseNow_9 rfl rfl ?_
      refine x_iconst Z dX4_houseNow_10 ?_
      refine x_icmp_ne Z 21 dX4_houseNow_11 (by decide) ⟨by omega, by omega⟩ ⟨by omega, by omega⟩ (fun c11 => ?_) (fun c11 => ?_)
      ·
        refine x_iload_n Z dX4_houseNow_21 rfl rfl ?_
        refine x_iconst Z dX4_houseNow_22 ?_
        refine x_icmp_ne Z 33 dX4_houseNow_23 (by decide) ⟨by omega, by omega⟩ ⟨by omega, by omega⟩ (fun c23 => ?_) (fun c23 => ?_)
        ·
          refine x_aload_n Z dX4_houseNow_33 rfl rfl ?_
          refine x_getf (ci := 5) (j := 5) (C := RX4) (T := TX4) (N := 7) Z inX4g rfl (by decide) q1046 rfl dX4_houseNow_34 (by assumption) rfl ?_
          exact x_iret Z E (⟨by first | rw [if_neg (by omega), if_pos c11] | rw [if_neg (by omega), if_neg c11, if_pos c23] | rw [if_neg (by omega), if_neg c11, if_neg c23, if_pos (by omega)], rfl⟩) dX4_houseNow_37 (Nat.le_of_ble_eq_true rfl) (Nat.le_of_ble_eq_true rfl)
        ·
          refine x_aload_n Z dX4_houseNow_26 rfl rfl ?_
          refine x_getf (ci := 5) (j := 4) (C := RX4) (T := TX4) (N := 7) Z inX4g rfl (by decide) q1045 rfl dX4_houseNow_27 (by assumption) rfl ?_
          refine x_goto Z 37 dX4_houseNow_30 (by decide) ?_
          exact x_iret Z E (⟨by first | rw [if_neg (by omega), if_pos c11] | rw [if_neg (by omega), if_neg c11, if_pos c23] | rw [if_neg (by omega), if_neg c11, if_neg c23, if_pos (by omega)], rfl⟩) dX4_houseNow_37 (Nat.le_of_ble_eq_true rfl) (Nat.le_of_ble_eq_true rfl)
      ·
        refine x_aload_n Z dX4_houseNow_14 rfl rfl ?_
        refine x_getf (ci := 5) (j := 3) (C := RX4) (T := TX4) (N := 7) Z inX4g rfl (by decide) q1044 rfl dX4_houseNow_15 (by assumption) rfl ?_
        refine x_goto Z 37 dX4_houseNow_18 (by decide) ?_
        exact x_iret Z E (⟨by first | rw [if_neg (by omega), if_pos c11] | rw [if_neg (by omega), if_neg c11, if_pos c23] | rw [if_neg (by omega), if_neg c11, if_neg c23, if_pos (by omega)], rfl⟩) dX4_houseNow_37 (Nat.le_of_ble_eq_true rfl) (Nat.le_of_ble_eq_true rfl)
abbrev rmc_X4_house : Room := { frames := 7, cells := 0, slots := 0, locals := 158 }
set_option maxRecDepth 100000 in
theorem c_X4_house {l : Launch} {s0 : State} {G : gK} {w : wd} (h0 : gS0 s0) (htr : l.stackTraces = false) {R : rA} {S : rM} {m : Int} (hS : rS G w R S) (him : inr m) : gM l s0 G yX4_house [Cond.code yX4_house cX4_house 2 (some .int)] rmc_X4_house [rv R.1, iv m] w (fun v w' => ∃ (z : Int) (T : Int), v = some (iv z) ∧ rS G w' R (rT S T) ∧ fr (rP R S.1) w w' ∧ ((T = 1 ∧ ¬ (0 ≤ m ∧ m ≤ 4)) ∨ (T = 0 ∧ (0 ≤ m ∧ m ≤ 4) ∧ (z = (if m = 0 then 0 + S.2.1 0 + S.2.1 1 + S.2.1 2 else if m = 1 then S.2.2.2.1 else if m = 2 then S.2.2.2.2.1 else if m = 3 then S.2.2.2.2.2.1 else forI (cst (fun i => decide (0 < S.2.1 i ∧ sb (S.2.2.1 i 0) = 0 ∧ lon (S.2.1 i) (S.2.2.1 i) 0 = S.2.1 i))) 0 3 0))))) (noX) := by
  refine g_of h0 htr (by decide +kernel) (Nat.le_of_ble_eq_true rfl) ?_
  intro b Z0 E
  have Z : gAm b l s0 G cX4_house RX4 2 rmc_X4_house := Z0
  refine x_el (L' := [(0, rv R.1), (1, iv m)]) rfl ?_
  obtain ⟨hr1, hr2, ⟨f3, hr3, hf3⟩, hr4, hr5, hr6⟩ := id hS
  have hf0 : fr (rP R S.1) w w := fr.rf
  have join15 : ∀ (c1 : Bool), (c1 = true ↔ ¬ (0 ≤ m ∧ m ≤ 4)) → gX b s0 G (0) (0) 15 [(0, rv R.1), (1, iv m)] [iv (b2 c1), rv R.1] (w) := by
    intro c1 hv
    have hc1 := hv
    refine x_callV (ci := 5) (C := RX4) (T := TX4) (N := 7) Z okX4_isThrown_ q1106 q1108 q15 rfl dX4_house_15 (c_X4_isThrown_ h0 htr hS) hS.1 ⟨Nat.le_of_ble_eq_true rfl, Nat.le_of_ble_eq_true rfl, Nat.le_of_ble_eq_true rfl, Nat.le_of_ble_eq_true rfl⟩ rfl rfl (Nat.le_of_ble_eq_true rfl) (fun v9 w9 hR => ?_)
    obtain ⟨rfl, hS, hf9⟩ := hR
    have hf0 := hf0.tr hf9
    simp only [Option.toList_some, Option.toList_none, List.cons_append, List.nil_append]
    refine x_ifb_eq Z 25 dX4_house_18 (by decide) (fun c18 => ?_) (fun c18 => ?_)
    ·
      have ea := c18
      have o1 := bq_n hc1 ea
      subst ea
      obtain ⟨hr1, hr2, ⟨f3, hr3, hf3⟩, hr4, hr5, hr6⟩ := id hS
      refine x_aload_n Z dX4_house_25 rfl rfl ?_
      refine x_iload_n Z dX4_house_26 rfl rfl ?_
      refine x_callV (ci := 5) (C := RX4) (T := TX4) (N := 7) Z okX4_houseNow q1374 q1376 q33 rfl dX4_house_27 (c_X4_houseNow h0 htr hS (by omega) (by omega)) hS.1 ⟨Nat.le_of_ble_eq_true rfl, Nat.le_of_ble_eq_true rfl, Nat.le_of_ble_eq_true rfl, Nat.le_of_ble_eq_true rfl⟩ rfl rfl (Nat.le_of_ble_eq_true rfl) (fun v9 w9 hR => ?_)
      obtain ⟨rfl, e9⟩ := hR
      refine x_ew e9 ?_
      simp only [Option.toList_some, Option.toList_none, List.cons_append, List.nil_append]
      exact x_iret Z E (by first | exact ⟨_, _, rfl, hS, hf0, Or.inl ⟨by rw [hbad]; rfl, hc1.mp hbad⟩⟩ | exact ⟨_, _, rfl, hS, hf0, Or.inr ⟨rfl, o1, rfl⟩⟩) dX4_house_30 (Nat.le_of_ble_eq_true rfl) (Nat.le_of_ble_eq_true rfl)
    ·
      have hbad := c18
      refine x_iconst Z dX4_house_21 ?_
      refine x_goto Z 30 dX4_house_22 (by decide) ?_
      exact x_iret Z E (by first | exact ⟨_, _, rfl, hS, hf0, Or.inl ⟨by rw [hbad]; rfl, hc1.mp hbad⟩⟩ | exact ⟨_, _, rfl, hS, hf0, Or.inr ⟨rfl, o1, rfl⟩⟩) dX4_house_30 (Nat.le_of_ble_eq_true rfl) (Nat.le_of_ble_eq_true rfl)
  refine x_aload_n Z dX4_house_0 rfl rfl ?_
  refine x_iload_n Z dX4_house_1 rfl rfl ?_
  refine x_if_lt Z 10 dX4_house_2 (by decide) ⟨by omega, by omega⟩ (fun c2 => ?_) (fun c2 => ?_)
  ·
    refine x_ib true Z dX4_house_10 (by decide) ?_
    refine x_goto Z 15 dX4_house_11 (by decide) ?_
    exact join15 _ (by first | exact ⟨fun _ => by omega, fun _ => rfl⟩ | exact ⟨fun h => absurd h (by decide), fun h => (h (by omega)).elim⟩)
  ·
    refine x_iload_n Z dX4_house_5 rfl rfl ?_
    refine x_iconst Z dX4_house_6 ?_
    refine x_icmp_le Z 14 dX4_house_7 (by decide) ⟨by omega, by omega⟩ ⟨by omega, by omega⟩ (fun c7 => ?_) (fun c7 => ?_)
    ·
      refine x_ib false Z dX4_house_14 (by decide) ?_
      exact join15 _ (by first | exact ⟨fun _ => by omega, fun _ => rfl⟩ | exact ⟨fun h => absurd h (by decide), fun h => (h (by omega)).elim⟩)
    ·
      refine x_ib true Z dX4_house_10 (by decide) ?_
      refine x_goto Z 15 dX4_house_11 (by decide) ?_
      exact join15 _ (by first | exact ⟨fun _ => by omega, fun _ => rfl⟩ | exact ⟨fun h => absurd h (by decide), fun h => (h (by omega)).elim⟩)
abbrev rmc_X4_isSoundNow : Room := { frames := 7, cells := 3, slots := 93, locals := 160 }
set_option maxRecDepth 100000 in
theorem c_X4_isSoundNow {l : Launch} {s0 : State} {G : gK} {w : wd} (h0 : gS0 s0) (htr : l.stackTraces = false) {R : rA} {S : rM} (hS : rS G w R S) : gM l s0 G yX4_isSoundNow [Cond.code yX4_isSoundNow cX4_isSoundNow 6 (some .boolean)] rmc_X4_isSoundNow [rv R.1] w (fun v w' => ∃ q : Bool, v = some (iv (b2 q)) ∧ (q = true ↔ ∀ j, 0 ≤ j → j < 3 → SND (S.2.1 j) (S.2.2.1 j)) ∧ ∃ T : Int, rS G w' R (rT S T) ∧ fr (rP R S.1) w w') (noX) := by
  refine g_of h0 htr (by decide +kernel) (Nat.le_of_ble_eq_true rfl) ?_
  intro b Z0 E
  have Z : gAm b l s0 G cX4_isSoundNow RX4 6 rmc_X4_isSoundNow := Z0
  refine x_el (L' := [(0, rv R.1)]) rfl ?_
  obtain ⟨hr1, hr2, ⟨f3, hr3, hf3⟩, hr4, hr5, hr6⟩ := id hS
  have hf0 : fr (rP R S.1) w w := fr.rf
  refine x_iconst Z dX4_isSoundNow_0 ?_
  refine x_istore_n (L' := [(1, _), (0, _)]) Z dX4_isSoundNow_1 rfl (Nat.le_of_ble_eq_true rfl) rfl ?_
  refine x_iconst Z dX4_isSoundNow_2 ?_
  refine x_istore_n (L' := [(2, _), (1, _), (0, _)]) Z dX4_isSoundNow_3 rfl (Nat.le_of_ble_eq_true rfl) rfl ?_
  have loop4 : ∀ (fu : Nat) (i v T : Int) (w1 : wd), 31 - i < (fu : Int) → (0 ≤ i ∧ i ≤ 31 ∧ v = forI (fun k v => v + forI (cst (fun c => decide (kin c = k))) 0 (255 + 1) 0) 0 i 0 ∧ rS G w1 R (rT S T) ∧ fr (rP R S.1) w w1) → gX b s0 G (0) (0) 4 [(2, iv i), (1, iv v), (0, rv R.1)] [] (w1) := by
    intro fu; induction fu with
    | zero => intro i v T w1 hm hv; exact absurd hm (by omega)
    | succ fu ih4 =>
      intro i v T w1 hm hv
      obtain ⟨hi0, hin, hv4, hS, hf0⟩ := hv
      refine x_iload_n Z dX4_isSoundNow_4 rfl rfl ?_
      refine x_bipush Z dX4_isSoundNow_5 (by decide +kernel) ?_
      refine x_icmp_ge Z 28 dX4_isSoundNow_7 (by decide) ⟨by omega, by omega⟩ ⟨by omega, by omega⟩ (fun c7 => ?_) (fun c7 => ?_)
      ·
        refine x_iload_n Z dX4_isSoundNow_28 rfl rfl ?_
        have hv31 : v = 256 := by { rw [hv4, show i = 31 by omega]; exact kn_all }
        refine x_tp (y := 256) hv31 ?_
        refine x_sipush Z dX4_isSoundNow_29 (by decide +kernel) ?_
        refine x_icmp_ne Z 39 dX4_isSoundNow_32 (by decide) ⟨by omega, by omega⟩ ⟨by omega, by omega⟩ (fun c32 => ?_) (fun c32 => ?_)
        · exact absurd c32 (by omega)
        ·
          refine x_ib true Z dX4_isSoundNow_35 (by decide) ?_
          refine x_goto Z 40 dX4_isSoundNow_36 (by decide) ?_
          refine x_istore_n (L' := [(2, _), (1, _), (0, _)]) Z dX4_isSoundNow_40 rfl (Nat.le_of_ble_eq_true rfl) rfl ?_
          refine x_iconst Z dX4_isSoundNow_41 ?_
          refine x_istore_n (L' := [(3, _), (2, _), (1, _), (0, _)]) Z dX4_isSoundNow_42 rfl (Nat.le_of_ble_eq_true rfl) rfl ?_
          have loop43 : ∀ (fu : Nat) (i : Int) (o : Bool) (w2 : wd), 3 - i < (fu : Int) → (0 ≤ i ∧ i ≤ 3 ∧ (o = true ↔ ∀ j, 0 ≤ j → j < i → SND (S.2.1 j) (S.2.2.1 j)) ∧ rS G w2 R (rT S T) ∧ fr (rP R S.1) w w2) → gX b s0 G (i.toNat) (31 * i.toNat) 43 [(3, iv i), (2, iv (b2 o)), (0, rv R.1)] [] (w2) := by
            intro fu; induction fu with
            | zero => intro i o w2 hm hv; exact absurd hm (by omega)
            | succ fu ih43 =>
              intro i o w2 hm hv
              obtain ⟨hi0, hin, ho, hS, hf0⟩ := hv
              obtain ⟨hr1, hr2, ⟨f3, hr3, hf3⟩, hr4, hr5, hr6⟩ := id hS
              try dsimp only [rT] at hr1 hf3 hr4 hr5 hr6
              refine x_iload_n Z dX4_isSoundNow_43 rfl rfl ?_
              refine x_iconst Z dX4_isSoundNow_44 ?_
              refine x_icmp_ge Z 141 dX4_isSoundNow_45 (by decide) ⟨by omega, by omega⟩ ⟨by omega, by omega⟩ (fun c45 => ?_) (fun c45 => ?_)
              ·
                refine x_wd (k' := 3) (n' := 93) (by omega) (by omega) ?_
                refine x_iload_n Z dX4_isSoundNow_141 rfl rfl ?_
                have ho9 := ho
                rw [show i = 3 by omega] at ho9
                exact x_zret Z E (⟨_, rfl, ho9, _, hS, hf0⟩) dX4_isSoundNow_142 (Nat.le_of_ble_eq_true rfl) (Nat.le_of_ble_eq_true rfl)
              ·
                have join133 : ∀ (p q : Bool), ((q = true ↔ SND (S.2.1 i) (S.2.2.1 i)) ∧ p = o) → gX b s0 G (i.toNat + 1) (31 * i.toNat + 31) 133 [(3, iv i), (0, rv R.1)] [iv (b2 q), iv (b2 p)] (w2) := by
                  intro p q hv
                  obtain ⟨hqs, hpo⟩ := hv
                  refine x_iand Z dX4_isSoundNow_133 ?_
                  refine x_tp (bAnd_b2 _ _) ?_
                  refine x_istore_n (L' := [(2, _), (3, _), (0, _)]) Z dX4_isSoundNow_134 rfl (Nat.le_of_ble_eq_true rfl) rfl ?_
                  refine x_iinc (L' := [(3, _), (2, _), (0, _)]) Z dX4_isSoundNow_135 rfl (Nat.le_of_ble_eq_true rfl) rfl ?_
                  refine x_goto Z 43 dX4_isSoundNow_138 (by decide) ?_
                  refine x_wd (k' := (i + 1).toNat) (n' := 31 * (i + 1).toNat) (by omega) (by omega) ?_
                  exact ih43 (i + 1) _ _ (by omega) ⟨by omega, by omega, all_s (P := fun j => SND (S.2.1 j) (S.2.2.1 j)) hi0 ho hqs hpo, hS, hf0⟩
                refine x_aload_n Z dX4_isSoundNow_48 rfl rfl ?_
                refine x_iload_n Z dX4_isSoundNow_49 rfl rfl ?_
                refine x_callV (ci := 5) (C := RX4) (T := TX4) (N := 7) Z okX4_cutsOf q1341 q1343 q29 rfl dX4_isSoundNow_50 (c_X4_cutsOf h0 htr hS (by omega) (by omega)) hS.1 ⟨Nat.le_of_ble_eq_true rfl, Nat.le_of_ble_eq_true rfl, (by show _ + 0 ≤ 3; omega), (by show _ + 0 ≤ 93; omega)⟩ rfl rfl (Nat.le_of_ble_eq_true rfl) (fun v9 w9 hR => ?_)
                obtain ⟨zc, rfl, e9, hzc, hpc⟩ := hR
                refine x_ew e9 ?_
                simp only [Option.toList_some, Option.toList_none, List.cons_append, List.nil_append]
                refine x_istore (L' := [(4, _), (3, _), (2, _), (0, _)]) Z dX4_isSoundNow_53 (Nat.le_of_ble_eq_true rfl) rfl ?_
                refine x_aload_n Z dX4_isSoundNow_55 rfl rfl ?_
                refine x_iload_n Z dX4_isSoundNow_56 rfl rfl ?_
                refine x_callV (ci := 5) (C := RX4) (T := TX4) (N := 7) Z okX4_piecesOf q1325 q1327 q28 rfl dX4_isSoundNow_57 (c_X4_piecesOf h0 htr hS (by omega) (by omega)) hS.1 ⟨Nat.le_of_ble_eq_true rfl, Nat.le_of_ble_eq_true rfl, (by show _ + 0 ≤ 3; omega), (by show _ + 0 ≤ 93; omega)⟩ rfl rfl (Nat.le_of_ble_eq_true rfl) (fun v9 w9 hR => ?_)
                obtain ⟨zp, rfl, e9, hzp1, hpp⟩ := hR
                refine x_ew e9 ?_
                simp only [Option.toList_some, Option.toList_none, List.cons_append, List.nil_append]
                refine x_istore (L' := [(5, _), (4, _), (3, _), (2, _), (0, _)]) Z dX4_isSoundNow_60 (Nat.le_of_ble_eq_true rfl) rfl ?_
                have ⟨_, hn0, hn30, _⟩ := hr5 i (by omega) (by omega)
                have hcv := cts_v (n := S.2.1 i) (C := S.2.2.1 i) hn0 hn30 hzc hpc
                have hpv := pcs_v (n := S.2.1 i) (C := S.2.2.1 i) hn0 hn30 hpp
                refine x_iload_n Z dX4_isSoundNow_62 rfl rfl ?_
                refine x_iload Z dX4_isSoundNow_63 rfl ?_
                refine x_aload_n Z dX4_isSoundNow_65 rfl rfl ?_
                refine x_iload_n Z dX4_isSoundNow_66 rfl rfl ?_
                refine x_callV (ci := 5) (C := RX4) (T := TX4) (N := 7) Z okX4_backOf q1349 q1351 q30 rfl dX4_isSoundNow_67 (c_X4_backOf h0 htr hS (by omega) (by omega)) hS.1 ⟨Nat.le_of_ble_eq_true rfl, Nat.le_of_ble_eq_true rfl, (by show _ + 0 ≤ 3; omega), (by show _ + 0 ≤ 93; omega)⟩ rfl rfl (Nat.le_of_ble_eq_true rfl) (fun v9 w9 hR => ?_)
                obtain ⟨zb, rfl, e9, hzb, hpb⟩ := hR
                refine x_ew e9 ?_
                simp only [Option.toList_some, Option.toList_none, List.cons_append, List.nil_append]
                have hbk : bkV (S.2.1 i) (S.2.2.1 i) zb := ⟨hzb, hpb⟩
                refine x_icmp_ne Z 132 dX4_isSoundNow_70 (by decide) ⟨by omega, by omega⟩ ⟨by omega, by omega⟩ (fun c70 => ?_) (fun c70 => ?_)
                ·
                  refine x_ib false Z dX4_isSoundNow_132 (by decide) ?_
                  refine x_sub [2, 4] rfl ?_
                  refine x_wd (k' := i.toNat + 1) (n' := 31 * i.toNat + 31) (by omega) (by omega) ?_
                  exact join133 _ _ ⟨(by first | exact ⟨fun _ => SND_t hn0 hbk hfv (hcv.trans c70) (hpv.trans c80) (by rw [hpv, ← c92, hpt9, hcv]) (c114.trans (decide_eq_true c106).symm), fun _ => rfl⟩ | exact ⟨fun _ => SND_t hn0 hbk hfv (hcv.trans c70) (hpv.trans c80) (by rw [hpv, ← c92, hpt9, hcv]) (c114.trans (decide_eq_false c106).symm), fun _ => rfl⟩ | exact ⟨fun h => absurd h (by decide), fun h => absurd (hcv.symm.trans (h.1 _ hbk)) c70⟩ | exact ⟨fun h => absurd h (by decide), fun h => absurd (hpv.symm.trans (h.2.1 _ hfv)) c80⟩ | exact ⟨fun h => absurd h (by decide), fun h => absurd (show zt = zp by rw [hpt9, ← hcv, ← h.2.2.1, hpv]) c92⟩ | exact ⟨fun h => absurd h (by decide), fun h => absurd (h.2.2.2.trans (decide_eq_true c106)) c114⟩ | exact ⟨fun h => absurd h (by decide), fun h => absurd (h.2.2.2.trans (decide_eq_false c106)) c114⟩), rfl⟩
                ·
                  refine x_iload Z dX4_isSoundNow_73 rfl ?_
                  refine x_aload_n Z dX4_isSoundNow_75 rfl rfl ?_
                  refine x_iload_n Z dX4_isSoundNow_76 rfl rfl ?_
                  refine x_callV (ci := 5) (C := RX4) (T := TX4) (N := 7) Z okX4_fewestOf q1357 q1359 q31 rfl dX4_isSoundNow_77 (c_X4_fewestOf h0 htr hS (by omega) (by omega)) hS.1 ⟨Nat.le_of_ble_eq_true rfl, Nat.le_of_ble_eq_true rfl, (by show _ + 1 ≤ 3; omega), (by show _ + 31 ≤ 93; omega)⟩ rfl rfl (Nat.le_of_ble_eq_true rfl) (fun v9 w9 hR => ?_)
                  obtain ⟨zf, rfl, e9, hzf1, hpf⟩ := hR
                  refine x_ew e9 ?_
                  simp only [Option.toList_some, Option.toList_none, List.cons_append, List.nil_append]
                  have hfv : fwV (S.2.1 i) (S.2.2.1 i) zf := hpf
                  refine x_icmp_ne Z 132 dX4_isSoundNow_80 (by decide) ⟨by omega, by omega⟩ ⟨by omega, by omega⟩ (fun c80 => ?_) (fun c80 => ?_)
                  ·
                    refine x_ib false Z dX4_isSoundNow_132 (by decide) ?_
                    refine x_sub [2, 4] rfl ?_
                    refine x_wd (k' := i.toNat + 1) (n' := 31 * i.toNat + 31) (by omega) (by omega) ?_
                    exact join133 _ _ ⟨(by first | exact ⟨fun _ => SND_t hn0 hbk hfv (hcv.trans c70) (hpv.trans c80) (by rw [hpv, ← c92, hpt9, hcv]) (c114.trans (decide_eq_true c106).symm), fun _ => rfl⟩ | exact ⟨fun _ => SND_t hn0 hbk hfv (hcv.trans c70) (hpv.trans c80) (by rw [hpv, ← c92, hpt9, hcv]) (c114.trans (decide_eq_false c106).symm), fun _ => rfl⟩ | exact ⟨fun h => absurd h (by decide), fun h => absurd (hcv.symm.trans (h.1 _ hbk)) c70⟩ | exact ⟨fun h => absurd h (by decide), fun h => absurd (hpv.symm.trans (h.2.1 _ hfv)) c80⟩ | exact ⟨fun h => absurd h (by decide), fun h => absurd (show zt = zp by rw [hpt9, ← hcv, ← h.2.2.1, hpv]) c92⟩ | exact ⟨fun h => absurd h (by decide), fun h => absurd (h.2.2.2.trans (decide_eq_true c106)) c114⟩ | exact ⟨fun h => absurd h (by decide), fun h => absurd (h.2.2.2.trans (decide_eq_false c106)) c114⟩), rfl⟩
                  ·
                    refine x_aload_n Z dX4_isSoundNow_83 rfl rfl ?_
                    refine x_iload_n Z dX4_isSoundNow_84 rfl rfl ?_
                    refine x_iload Z dX4_isSoundNow_85 rfl ?_
                    refine x_callV (ci := 5) (C := RX4) (T := TX4) (N := 7) Z okX4_partedOf q1366 q1368 q32 rfl dX4_isSoundNow_87 (c_X4_partedOf h0 htr hS (by omega) (by omega)) hS.1 ⟨Nat.le_of_ble_eq_true rfl, Nat.le_of_ble_eq_true rfl, (by show _ + 0 ≤ 3; omega), (by show _ + 0 ≤ 93; omega)⟩ rfl rfl (Nat.le_of_ble_eq_true rfl) (fun v9 w9 hR => ?_)
                    obtain ⟨zt, rfl, e9, hzt, hpt9⟩ := hR
                    refine x_ew e9 ?_
                    simp only [Option.toList_some, Option.toList_none, List.cons_append, List.nil_append]
                    refine x_iload Z dX4_isSoundNow_90 rfl ?_
                    refine x_icmp_ne Z 132 dX4_isSoundNow_92 (by decide) ⟨by omega, by omega⟩ ⟨by omega, by omega⟩ (fun c92 => ?_) (fun c92 => ?_)
                    ·
                      refine x_ib false Z dX4_isSoundNow_132 (by decide) ?_
                      refine x_sub [2, 4] rfl ?_
                      refine x_wd (k' := i.toNat + 1) (n' := 31 * i.toNat + 31) (by omega) (by omega) ?_
                      exact join133 _ _ ⟨(by first | exact ⟨fun _ => SND_t hn0 hbk hfv (hcv.trans c70) (hpv.trans c80) (by rw [hpv, ← c92, hpt9, hcv]) (c114.trans (decide_eq_true c106).symm), fun _ => rfl⟩ | exact ⟨fun _ => SND_t hn0 hbk hfv (hcv.trans c70) (hpv.trans c80) (by rw [hpv, ← c92, hpt9, hcv]) (c114.trans (decide_eq_false c106).symm), fun _ => rfl⟩ | exact ⟨fun h => absurd h (by decide), fun h => absurd (hcv.symm.trans (h.1 _ hbk)) c70⟩ | exact ⟨fun h => absurd h (by decide), fun h => absurd (hpv.symm.trans (h.2.1 _ hfv)) c80⟩ | exact ⟨fun h => absurd h (by decide), fun h => absurd (show zt = zp by rw [hpt9, ← hcv, ← h.2.2.1, hpv]) c92⟩ | exact ⟨fun h => absurd h (by decide), fun h => absurd (h.2.2.2.trans (decide_eq_true c106)) c114⟩ | exact ⟨fun h => absurd h (by decide), fun h => absurd (h.2.2.2.trans (decide_eq_false c106)) c114⟩), rfl⟩
                    ·
                      refine x_aload_n Z dX4_isSoundNow_95 rfl rfl ?_
                      refine x_iload_n Z dX4_isSoundNow_96 rfl rfl ?_
                      refine x_callV (ci := 5) (C := RX4) (T := TX4) (N := 7) Z okX4_isNameNow q1301 q1303 q26 rfl dX4_isSoundNow_97 (c_X4_isNameNow h0 htr hS (by omega) (by omega)) hS.1 ⟨Nat.le_of_ble_eq_true rfl, Nat.le_of_ble_eq_true rfl, (by show _ + 0 ≤ 3; omega), (by show _ + 0 ≤ 93; omega)⟩ rfl rfl (Nat.le_of_ble_eq_true rfl) (fun v9 w9 hR => ?_)
                      obtain ⟨rfl, e9⟩ := hR
                      refine x_ew e9 ?_
                      simp only [Option.toList_some, Option.toList_none, List.cons_append, List.nil_append]
                      refine x_aload_n Z dX4_isSoundNow_100 rfl rfl ?_
                      refine x_iload_n Z dX4_isSoundNow_101 rfl rfl ?_
                      refine x_callV (ci := 5) (C := RX4) (T := TX4) (N := 7) Z okX4_faultOf q1309 q1311 q27 rfl dX4_isSoundNow_102 (c_X4_faultOf h0 htr hS (by omega) (by omega)) hS.1 ⟨Nat.le_of_ble_eq_true rfl, Nat.le_of_ble_eq_true rfl, (by show _ + 0 ≤ 3; omega), (by show _ + 0 ≤ 93; omega)⟩ rfl rfl (Nat.le_of_ble_eq_true rfl) (fun v9 w9 hR => ?_)
                      obtain ⟨rfl, e9⟩ := hR
                      refine x_ew e9 ?_
                      simp only [Option.toList_some, Option.toList_none, List.cons_append, List.nil_append]
                      have hfi := findI_in (P := fun j => !so (S.2.2.1 i j) (cond (decide (j = 0)) 11 12)) (i := 0) (n := S.2.1 i) (by have ⟨_, hn0, hn30, _⟩ := hr5 i (by omega) (by omega); exact hn0)
                      have ⟨_, hn0, hn30, _⟩ := hr5 i (by omega) (by omega)
                      refine x_iconst Z dX4_isSoundNow_105 ?_
                      refine x_icmp_ne Z 113 dX4_isSoundNow_106 (by decide) ⟨by omega, by omega⟩ ⟨by omega, by omega⟩ (fun c106 => ?_) (fun c106 => ?_)
                      ·
                        refine x_ib false Z dX4_isSoundNow_113 (by decide) ?_
                        refine x_icmpb_ne Z 132 dX4_isSoundNow_114 (by decide) (fun c114 => ?_) (fun c114 => ?_)
                        ·
                          refine x_ib false Z dX4_isSoundNow_132 (by decide) ?_
                          refine x_sub [2, 4] rfl ?_
                          refine x_wd (k' := i.toNat + 1) (n' := 31 * i.toNat + 31) (by omega) (by omega) ?_
                          exact join133 _ _ ⟨(by first | exact ⟨fun _ => SND_t hn0 hbk hfv (hcv.trans c70) (hpv.trans c80) (by rw [hpv, ← c92, hpt9, hcv]) (c114.trans (decide_eq_true c106).symm), fun _ => rfl⟩ | exact ⟨fun _ => SND_t hn0 hbk hfv (hcv.trans c70) (hpv.trans c80) (by rw [hpv, ← c92, hpt9, hcv]) (c114.trans (decide_eq_false c106).symm), fun _ => rfl⟩ | exact ⟨fun h => absurd h (by decide), fun h => absurd (hcv.symm.trans (h.1 _ hbk)) c70⟩ | exact ⟨fun h => absurd h (by decide), fun h => absurd (hpv.symm.trans (h.2.1 _ hfv)) c80⟩ | exact ⟨fun h => absurd h (by decide), fun h => absurd (show zt = zp by rw [hpt9, ← hcv, ← h.2.2.1, hpv]) c92⟩ | exact ⟨fun h => absurd h (by decide), fun h => absurd (h.2.2.2.trans (decide_eq_true c106)) c114⟩ | exact ⟨fun h => absurd h (by decide), fun h => absurd (h.2.2.2.trans (decide_eq_false c106)) c114⟩), rfl⟩
                        ·
                          refine x_aload_n Z dX4_isSoundNow_117 rfl rfl ?_
                          refine x_getf (ci := 5) (j := 2) (C := RX4) (T := TX4) (N := 7) Z inX4g rfl (by decide) q1043 rfl dX4_isSoundNow_118 (by assumption) rfl ?_
                          refine x_iload_n Z dX4_isSoundNow_121 rfl rfl ?_
                          refine x_iald Z dX4_isSoundNow_122 (by assumption) (by omega) (by omega) (by omega) ?_
                          have ⟨_, hn0, hn30, _⟩ := hr5 i (by omega) (by omega)
                          refine x_bipush Z dX4_isSoundNow_123 (by decide +kernel) ?_
                          refine x_icmp_gt Z 132 dX4_isSoundNow_125 (by decide) ⟨by omega, by omega⟩ ⟨by omega, by omega⟩ (fun c125 => ?_) (fun c125 => ?_)
                          · exact absurd c125 (by omega)
                          ·
                            refine x_ib true Z dX4_isSoundNow_128 (by decide) ?_
                            refine x_goto Z 133 dX4_isSoundNow_129 (by decide) ?_
                            refine x_sub [2, 4] rfl ?_
                            refine x_wd (k' := i.toNat + 1) (n' := 31 * i.toNat + 31) (by omega) (by omega) ?_
                            exact join133 _ _ ⟨(by first | exact ⟨fun _ => SND_t hn0 hbk hfv (hcv.trans c70) (hpv.trans c80) (by rw [hpv, ← c92, hpt9, hcv]) (c114.trans (decide_eq_true c106).symm), fun _ => rfl⟩ | exact ⟨fun _ => SND_t hn0 hbk hfv (hcv.trans c70) (hpv.trans c80) (by rw [hpv, ← c92, hpt9, hcv]) (c114.trans (decide_eq_false c106).symm), fun _ => rfl⟩ | exact ⟨fun h => absurd h (by decide), fun h => absurd (hcv.symm.trans (h.1 _ hbk)) c70⟩ | exact ⟨fun h => absurd h (by decide), fun h => absurd (hpv.symm.trans (h.2.1 _ hfv)) c80⟩ | exact ⟨fun h => absurd h (by decide), fun h => absurd (show zt = zp by rw [hpt9, ← hcv, ← h.2.2.1, hpv]) c92⟩ | exact ⟨fun h => absurd h (by decide), fun h => absurd (h.2.2.2.trans (decide_eq_true c106)) c114⟩ | exact ⟨fun h => absurd h (by decide), fun h => absurd (h.2.2.2.trans (decide_eq_false c106)) c114⟩), rfl⟩
                      ·
                        refine x_ib true Z dX4_isSoundNow_109 (by decide) ?_
                        refine x_goto Z 114 dX4_isSoundNow_110 (by decide) ?_
                        refine x_icmpb_ne Z 132 dX4_isSoundNow_114 (by decide) (fun c114 => ?_) (fun c114 => ?_)
                        ·
                          refine x_ib false Z dX4_isSoundNow_132 (by decide) ?_
                          refine x_sub [2, 4] rfl ?_
                          refine x_wd (k' := i.toNat + 1) (n' := 31 * i.toNat + 31) (by omega) (by omega) ?_
                          exact join133 _ _ ⟨(by first | exact ⟨fun _ => SND_t hn0 hbk hfv (hcv.trans c70) (hpv.trans c80) (by rw [hpv, ← c92, hpt9, hcv]) (c114.trans (decide_eq_true c106).symm), fun _ => rfl⟩ | exact ⟨fun _ => SND_t hn0 hbk hfv (hcv.trans c70) (hpv.trans c80) (by rw [hpv, ← c92, hpt9, hcv]) (c114.trans (decide_eq_false c106).symm), fun _ => rfl⟩ | exact ⟨fun h => absurd h (by decide), fun h => absurd (hcv.symm.trans (h.1 _ hbk)) c70⟩ | exact ⟨fun h => absurd h (by decide), fun h => absurd (hpv.symm.trans (h.2.1 _ hfv)) c80⟩ | exact ⟨fun h => absurd h (by decide), fun h => absurd (show zt = zp by rw [hpt9, ← hcv, ← h.2.2.1, hpv]) c92⟩ | exact ⟨fun h => absurd h (by decide), fun h => absurd (h.2.2.2.trans (decide_eq_true c106)) c114⟩ | exact ⟨fun h => absurd h (by decide), fun h => absurd (h.2.2.2.trans (decide_eq_false c106)) c114⟩), rfl⟩
                        ·
                          refine x_aload_n Z dX4_isSoundNow_117 rfl rfl ?_
                          refine x_getf (ci := 5) (j := 2) (C := RX4) (T := TX4) (N := 7) Z inX4g rfl (by decide) q1043 rfl dX4_isSoundNow_118 (by assumption) rfl ?_
                          refine x_iload_n Z dX4_isSoundNow_121 rfl rfl ?_
                          refine x_iald Z dX4_isSoundNow_122 (by assumption) (by omega) (by omega) (by omega) ?_
                          have ⟨_, hn0, hn30, _⟩ := hr5 i (by omega) (by omega)
                          refine x_bipush Z dX4_isSoundNow_123 (by decide +kernel) ?_
                          refine x_icmp_gt Z 132 dX4_isSoundNow_125 (by decide) ⟨by omega, by omega⟩ ⟨by omega, by omega⟩ (fun c125 => ?_) (fun c125 => ?_)
                          · exact absurd c125 (by omega)
                          ·
                            refine x_ib true Z dX4_isSoundNow_128 (by decide) ?_
                            refine x_goto Z 133 dX4_isSoundNow_129 (by decide) ?_
                            refine x_sub [2, 4] rfl ?_
                            refine x_wd (k' := i.toNat + 1) (n' := 31 * i.toNat + 31) (by omega) (by omega) ?_
                            exact join133 _ _ ⟨(by first | exact ⟨fun _ => SND_t hn0 hbk hfv (hcv.trans c70) (hpv.trans c80) (by rw [hpv, ← c92, hpt9, hcv]) (c114.trans (decide_eq_true c106).symm), fun _ => rfl⟩ | exact ⟨fun _ => SND_t hn0 hbk hfv (hcv.trans c70) (hpv.trans c80) (by rw [hpv, ← c92, hpt9, hcv]) (c114.trans (decide_eq_false c106).symm), fun _ => rfl⟩ | exact ⟨fun h => absurd h (by decide), fun h => absurd (hcv.symm.trans (h.1 _ hbk)) c70⟩ | exact ⟨fun h => absurd h (by decide), fun h => absurd (hpv.symm.trans (h.2.1 _ hfv)) c80⟩ | exact ⟨fun h => absurd h (by decide), fun h => absurd (show zt = zp by rw [hpt9, ← hcv, ← h.2.2.1, hpv]) c92⟩ | exact ⟨fun h => absurd h (by decide), fun h => absurd (h.2.2.2.trans (decide_eq_true c106)) c114⟩ | exact ⟨fun h => absurd h (by decide), fun h => absurd (h.2.2.2.trans (decide_eq_false c106)) c114⟩), rfl⟩
          refine x_sub [0, 1, 3] rfl ?_
          exact loop43 5 0 _ _ (by omega) ⟨by omega, by omega, ⟨fun _ j j0 j1 => absurd j1 (by omega), fun _ => rfl⟩, hS, hf0⟩
      ·
        refine x_iload_n Z dX4_isSoundNow_10 rfl rfl ?_
        refine x_aload_n Z dX4_isSoundNow_11 rfl rfl ?_
        refine x_iload_n Z dX4_isSoundNow_12 rfl rfl ?_
        refine x_iconst Z dX4_isSoundNow_13 ?_
        refine x_sipush Z dX4_isSoundNow_14 (by decide +kernel) ?_
        refine x_callV (ci := 5) (C := RX4) (T := TX4) (N := 7) Z okX4_ofKind q1390 q1220 q1221 rfl dX4_isSoundNow_17 (c_X4_ofKind h0 htr hS ⟨by omega, by omega⟩ ⟨by decide, by decide⟩ ⟨by decide, by decide⟩) hS.1 ⟨Nat.le_of_ble_eq_true rfl, Nat.le_of_ble_eq_true rfl, Nat.le_of_ble_eq_true rfl, Nat.le_of_ble_eq_true rfl⟩ rfl rfl (Nat.le_of_ble_eq_true rfl) (fun v9 w9 hR => ?_)
        obtain ⟨z, T9, rfl, hS, hf9, hT9⟩ := hR
        have hf0 := hf0.tr hf9
        have hzv : z = forI (cst (fun c => decide (kin c = i))) 0 (255 + 1) 0 := by { rcases hT9 with ⟨_, h⟩ | ⟨_, _, h⟩; exact absurd (by omega) h; exact h }
        simp only [Option.toList_some, Option.toList_none, List.cons_append, List.nil_append]
        refine x_iadd Z dX4_isSoundNow_20 ?_
        refine x_istore_n (L' := [(1, _), (2, _), (0, _)]) Z dX4_isSoundNow_21 rfl (Nat.le_of_ble_eq_true rfl) rfl ?_
        refine x_iinc (L' := [(2, _), (1, _), (0, _)]) Z dX4_isSoundNow_22 rfl (Nat.le_of_ble_eq_true rfl) rfl ?_
        refine x_goto Z 4 dX4_isSoundNow_25 (by decide) ?_
        exact ih4 (i + 1) _ _ _ (by omega) ⟨by omega, by omega, by rw [forI_e1 (by omega), ← hv4, ← hzv], hS, hf0⟩
  exact loop4 40 0 0 S.2.2.2.2.2.2 _ (by omega) ⟨by omega, by omega, rfl, hS, hf0⟩
abbrev rmc_X4_isSound : Room := { frames := 8, cells := 3, slots := 93, locals := 185 }
set_option maxRecDepth 100000 in
theorem c_X4_isSound {l : Launch} {s0 : State} {G : gK} {w : wd} (h0 : gS0 s0) (htr : l.stackTraces = false) {R : rA} {S : rM} (hS : rS G w R S) : gM l s0 G yX4_isSound [Cond.code yX4_isSound cX4_isSound 2 (some .boolean)] rmc_X4_isSound [rv R.1] w (fun v w' => ∃ q : Bool, v = some (iv (b2 q)) ∧ (q = true ↔ ∀ j, 0 ≤ j → j < 3 → SND (S.2.1 j) (S.2.2.1 j)) ∧ ∃ T : Int, rS G w' R (rT S T) ∧ fr (rP R S.1) w w') (noX) := by
  refine g_of h0 htr (by decide +kernel) (Nat.le_of_ble_eq_true rfl) ?_
  intro b Z0 E
  have Z : gAm b l s0 G cX4_isSound RX4 2 rmc_X4_isSound := Z0
  refine x_el (L' := [(0, rv R.1)]) rfl ?_
  obtain ⟨hr1, hr2, ⟨f3, hr3, hf3⟩, hr4, hr5, hr6⟩ := id hS
  have hf0 : fr (rP R S.1) w w := fr.rf
  refine x_aload_n Z dX4_isSound_0 rfl rfl ?_
  refine x_callV (ci := 5) (C := RX4) (T := TX4) (N := 7) Z okX4_isSoundNow q1386 q1388 q34 rfl dX4_isSound_1 (c_X4_isSoundNow h0 htr hS) hS.1 ⟨Nat.le_of_ble_eq_true rfl, Nat.le_of_ble_eq_true rfl, Nat.le_of_ble_eq_true rfl, Nat.le_of_ble_eq_true rfl⟩ rfl rfl (Nat.le_of_ble_eq_true rfl) (fun v9 w9 hR => ?_)
  obtain ⟨q7, rfl, hq7, T9, hS, hf9⟩ := hR
  have hf0 := hf0.tr hf9
  simp only [Option.toList_some, Option.toList_none, List.cons_append, List.nil_append]
  obtain ⟨hr1, hr2, ⟨f3, hr3, hf3⟩, hr4, hr5, hr6⟩ := id hS
  refine x_istore_n (L' := [(1, _), (0, _)]) Z dX4_isSound_4 rfl (Nat.le_of_ble_eq_true rfl) rfl ?_
  refine x_aload_n Z dX4_isSound_5 rfl rfl ?_
  refine x_iconst Z dX4_isSound_6 ?_
  refine x_putf (ci := 5) (j := 6) (C := RX4) (T := TX4) (N := 7) (fs' := [_, _, _, _, _, _, _]) Z tyX4 tyX4_ok nmX4 inX4g rfl (by decide) q1047 rfl rfl rfl rfl rfl dX4_isSound_7 (by assumption) (by exact Nat.le_of_ble_eq_true rfl) rfl ?_
  refine x_iload_n Z dX4_isSound_10 rfl rfl ?_
  exact x_zret Z E (⟨_, rfl, hq7, 0, hS.obj _ _ _ _, hf0.set (Or.inl rfl)⟩) dX4_isSound_11 (Nat.le_of_ble_eq_true rfl) (Nat.le_of_ble_eq_true rfl)
abbrev rmc_X4_digest : Room := { frames := 8, cells := 6, slots := 186, locals := 185 }
set_option maxRecDepth 100000 in
theorem c_X4_digest {l : Launch} {s0 : State} {G : gK} {w : wd} (h0 : gS0 s0) (htr : l.stackTraces = false) {R : rA} {S : rM} (hS : rS G w R S) : gM l s0 G yX4_digest [Cond.code yX4_digest cX4_digest 5 (some .long)] rmc_X4_digest [rv R.1] w (fun v w' => (∃ q : Bool, v = some (.long (dmx (forI (fun m d => dmx d ((fun m : Int => (if m = 0 then 0 + S.2.1 0 + S.2.1 1 + S.2.1 2 else if m = 1 then S.2.2.2.1 else if m = 2 then S.2.2.2.2.1 else if m = 3 then S.2.2.2.2.2.1 else forI (cst (fun i => decide (0 < S.2.1 i ∧ sb (S.2.2.1 i 0) = 0 ∧ lon (S.2.1 i) (S.2.2.1 i) 0 = S.2.1 i))) 0 3 0)) m)) 0 5 (forI (fun j d => dgT (S.2.1 j) (S.2.2.1 j) d) 0 3 8005)) (b2 q))) ∧ (q = true ↔ ∀ j, 0 ≤ j → j < 3 → SND (S.2.1 j) (S.2.2.1 j))) ∧ ∃ T : Int, rS G w' R (rT S T) ∧ fr (rP R S.1) w w') (noX) := by
  refine g_of h0 htr (by decide +kernel) (Nat.le_of_ble_eq_true rfl) ?_
  intro b Z0 E
  have Z : gAm b l s0 G cX4_digest RX4 5 rmc_X4_digest := Z0
  refine x_el (L' := [(0, rv R.1)]) rfl ?_
  obtain ⟨hr1, hr2, ⟨f3, hr3, hf3⟩, hr4, hr5, hr6⟩ := id hS
  have hf0 : fr (rP R S.1) w w := fr.rf
  refine x_ldc2 Z q1395 dX4_digest_0 ?_
  refine x_lstore_n (L' := [(1, _), (0, _)]) Z dX4_digest_3 rfl (Nat.le_of_ble_eq_true rfl) rfl ?_
  refine x_iconst Z dX4_digest_4 ?_
  refine x_istore_n (L' := [(3, _), (1, _), (0, _)]) Z dX4_digest_5 rfl (Nat.le_of_ble_eq_true rfl) rfl ?_
  have loop6 : ∀ (fu : Nat) (i : Int) (x1 : Int64), 3 - i < (fu : Int) → (0 ≤ i ∧ i ≤ 3 ∧ forI (fun j d => dgT (S.2.1 j) (S.2.2.1 j) d) i 3 x1 = forI (fun j d => dgT (S.2.1 j) (S.2.2.1 j) d) 0 3 8005) → gX b s0 G (i.toNat) (31 * i.toNat) 6 [(3, iv i), (1, .long x1), (0, rv R.1)] [] (w) := by
    intro fu; induction fu with
    | zero => intro i x1 hm hv; exact absurd hm (by omega)
    | succ fu ih6 =>
      intro i x1 hm hv
      obtain ⟨hi0, hin, hif⟩ := hv
      refine x_iload_n Z dX4_digest_6 rfl rfl ?_
      refine x_iconst Z dX4_digest_7 ?_
      refine x_icmp_ge Z 167 dX4_digest_8 (by decide) ⟨by omega, by omega⟩ ⟨by omega, by omega⟩ (fun c8 => ?_) (fun c8 => ?_)
      ·
        refine x_wd (k' := 3) (n' := 93) (by omega) (by omega) ?_
        refine x_iconst Z dX4_digest_167 ?_
        refine x_istore_n (L' := [(3, _), (1, _), (0, _)]) Z dX4_digest_168 rfl (Nat.le_of_ble_eq_true rfl) rfl ?_
        have loop169 : ∀ (fu : Nat) (i : Int) (x1 : Int64), 5 - i < (fu : Int) → (0 ≤ i ∧ i ≤ 5 ∧ forI (fun m d => dmx d ((fun m : Int => (if m = 0 then 0 + S.2.1 0 + S.2.1 1 + S.2.1 2 else if m = 1 then S.2.2.2.1 else if m = 2 then S.2.2.2.2.1 else if m = 3 then S.2.2.2.2.2.1 else forI (cst (fun i => decide (0 < S.2.1 i ∧ sb (S.2.2.1 i 0) = 0 ∧ lon (S.2.1 i) (S.2.2.1 i) 0 = S.2.1 i))) 0 3 0)) m)) i 5 x1 = forI (fun m d => dmx d ((fun m : Int => (if m = 0 then 0 + S.2.1 0 + S.2.1 1 + S.2.1 2 else if m = 1 then S.2.2.2.1 else if m = 2 then S.2.2.2.2.1 else if m = 3 then S.2.2.2.2.2.1 else forI (cst (fun i => decide (0 < S.2.1 i ∧ sb (S.2.2.1 i 0) = 0 ∧ lon (S.2.1 i) (S.2.2.1 i) 0 = S.2.1 i))) 0 3 0)) m)) 0 5 (forI (fun j d => dgT (S.2.1 j) (S.2.2.1 j) d) 0 3 8005)) → gX b s0 G (3) (93) 169 [(3, iv i), (1, .long x1), (0, rv R.1)] [] (w) := by
          intro fu; induction fu with
          | zero => intro i x1 hm hv; exact absurd hm (by omega)
          | succ fu ih169 =>
            intro i x1 hm hv
            obtain ⟨hi0, hin, hif⟩ := hv
            refine x_iload_n Z dX4_digest_169 rfl rfl ?_
            refine x_iconst Z dX4_digest_170 ?_
            refine x_icmp_ge Z 193 dX4_digest_171 (by decide) ⟨by omega, by omega⟩ ⟨by omega, by omega⟩ (fun c171 => ?_) (fun c171 => ?_)
            ·
              refine x_lload_n Z dX4_digest_193 rfl rfl ?_
              refine x_ldc2 Z q1396 dX4_digest_194 ?_
              refine x_lmul Z dX4_digest_197 ?_
              refine x_aload_n Z dX4_digest_198 rfl rfl ?_
              refine x_callV (ci := 5) (C := RX4) (T := TX4) (N := 7) Z okX4_isSoundNow q1386 q1388 q34 rfl dX4_digest_199 (c_X4_isSoundNow h0 htr hS) hS.1 ⟨Nat.le_of_ble_eq_true rfl, Nat.le_of_ble_eq_true rfl, Nat.le_of_ble_eq_true rfl, Nat.le_of_ble_eq_true rfl⟩ rfl rfl (Nat.le_of_ble_eq_true rfl) (fun v9 w9 hR => ?_)
              obtain ⟨q7, rfl, hq7, T9, hS, hf9⟩ := hR
              have hf0 := hf0.tr hf9
              simp only [Option.toList_some, Option.toList_none, List.cons_append, List.nil_append]
              refine x_ifb_eq Z 209 dX4_digest_202 (by decide) (fun c202 => ?_) (fun c202 => ?_)
              ·
                refine x_ib false Z dX4_digest_209 (by decide) ?_
                refine x_i2l Z dX4_digest_210 ?_
                refine x_ladd Z dX4_digest_211 ?_
                refine x_lstore_n (L' := [(1, _), (3, _), (0, _)]) Z dX4_digest_212 rfl (Nat.le_of_ble_eq_true rfl) rfl ?_
                refine x_aload_n Z dX4_digest_213 rfl rfl ?_
                refine x_iconst Z dX4_digest_214 ?_
                obtain ⟨hr1, hr2, ⟨f3, hr3, hf3⟩, hr4, hr5, hr6⟩ := id hS
                refine x_putf (ci := 5) (j := 6) (C := RX4) (T := TX4) (N := 7) (fs' := [_, _, _, _, _, _, _]) Z tyX4 tyX4_ok nmX4 inX4g rfl (by decide) q1047 rfl rfl rfl rfl rfl dX4_digest_215 (by assumption) (by exact Nat.le_of_ble_eq_true rfl) rfl ?_
                refine x_lload_n Z dX4_digest_218 rfl rfl ?_
                have hx9 : x1 = forI (fun m d => dmx d ((fun m : Int => (if m = 0 then 0 + S.2.1 0 + S.2.1 1 + S.2.1 2 else if m = 1 then S.2.2.2.1 else if m = 2 then S.2.2.2.2.1 else if m = 3 then S.2.2.2.2.2.1 else forI (cst (fun i => decide (0 < S.2.1 i ∧ sb (S.2.2.1 i 0) = 0 ∧ lon (S.2.1 i) (S.2.2.1 i) 0 = S.2.1 i))) 0 3 0)) m)) 0 5 (forI (fun j d => dgT (S.2.1 j) (S.2.2.1 j) d) 0 3 8005) := by { rw [← hif, forI_e (by omega)] }
                exact x_lret Z E (⟨⟨q7, by rw [hx9, c202]; rfl, hq7⟩, 0, hS.obj _ _ _ _, hf0.set (Or.inl rfl)⟩) dX4_digest_219 (Nat.le_of_ble_eq_true rfl) (Nat.le_of_ble_eq_true rfl)
              ·
                refine x_ib true Z dX4_digest_205 (by decide) ?_
                refine x_goto Z 210 dX4_digest_206 (by decide) ?_
                refine x_i2l Z dX4_digest_210 ?_
                refine x_ladd Z dX4_digest_211 ?_
                refine x_lstore_n (L' := [(1, _), (3, _), (0, _)]) Z dX4_digest_212 rfl (Nat.le_of_ble_eq_true rfl) rfl ?_
                refine x_aload_n Z dX4_digest_213 rfl rfl ?_
                refine x_iconst Z dX4_digest_214 ?_
                obtain ⟨hr1, hr2, ⟨f3, hr3, hf3⟩, hr4, hr5, hr6⟩ := id hS
                refine x_putf (ci := 5) (j := 6) (C := RX4) (T := TX4) (N := 7) (fs' := [_, _, _, _, _, _, _]) Z tyX4 tyX4_ok nmX4 inX4g rfl (by decide) q1047 rfl rfl rfl rfl rfl dX4_digest_215 (by assumption) (by exact Nat.le_of_ble_eq_true rfl) rfl ?_
                refine x_lload_n Z dX4_digest_218 rfl rfl ?_
                have hx9 : x1 = forI (fun m d => dmx d ((fun m : Int => (if m = 0 then 0 + S.2.1 0 + S.2.1 1 + S.2.1 2 else if m = 1 then S.2.2.2.1 else if m = 2 then S.2.2.2.2.1 else if m = 3 then S.2.2.2.2.2.1 else forI (cst (fun i => decide (0 < S.2.1 i ∧ sb (S.2.2.1 i 0) = 0 ∧ lon (S.2.1 i) (S.2.2.1 i) 0 = S.2.1 i))) 0 3 0)) m)) 0 5 (forI (fun j d => dgT (S.2.1 j) (S.2.2.1 j) d) 0 3 8005) := by { rw [← hif, forI_e (by omega)] }
                exact x_lret Z E (⟨⟨q7, by rw [hx9, c202]; rfl, hq7⟩, 0, hS.obj _ _ _ _, hf0.set (Or.inl rfl)⟩) dX4_digest_219 (Nat.le_of_ble_eq_true rfl) (Nat.le_of_ble_eq_true rfl)
            ·
              refine x_lload_n Z dX4_digest_174 rfl rfl ?_
              refine x_ldc2 Z q1396 dX4_digest_175 ?_
              refine x_lmul Z dX4_digest_178 ?_
              refine x_aload_n Z dX4_digest_179 rfl rfl ?_
              refine x_iload_n Z dX4_digest_180 rfl rfl ?_
              refine x_callV (ci := 5) (C := RX4) (T := TX4) (N := 7) Z okX4_houseNow q1374 q1376 q33 rfl dX4_digest_181 (c_X4_houseNow h0 htr hS (by omega) (by omega)) hS.1 ⟨Nat.le_of_ble_eq_true rfl, Nat.le_of_ble_eq_true rfl, Nat.le_of_ble_eq_true rfl, Nat.le_of_ble_eq_true rfl⟩ rfl rfl (Nat.le_of_ble_eq_true rfl) (fun v9 w9 hR => ?_)
              obtain ⟨rfl, e9⟩ := hR
              refine x_ew e9 ?_
              simp only [Option.toList_some, Option.toList_none, List.cons_append, List.nil_append]
              refine x_i2l Z dX4_digest_184 ?_
              refine x_ladd Z dX4_digest_185 ?_
              refine x_lstore_n (L' := [(1, _), (3, _), (0, _)]) Z dX4_digest_186 rfl (Nat.le_of_ble_eq_true rfl) rfl ?_
              refine x_iinc (L' := [(3, _), (1, _), (0, _)]) Z dX4_digest_187 rfl (Nat.le_of_ble_eq_true rfl) rfl ?_
              refine x_goto Z 169 dX4_digest_190 (by decide) ?_
              exact ih169 (i + 1) _ (by omega) ⟨by omega, by omega, by rw [← hif, forI_s (f := fun m d => dmx d ((fun m : Int => (if m = 0 then 0 + S.2.1 0 + S.2.1 1 + S.2.1 2 else if m = 1 then S.2.2.2.1 else if m = 2 then S.2.2.2.2.1 else if m = 3 then S.2.2.2.2.2.1 else forI (cst (fun i => decide (0 < S.2.1 i ∧ sb (S.2.2.1 i 0) = 0 ∧ lon (S.2.1 i) (S.2.2.1 i) 0 = S.2.1 i))) 0 3 0)) m)) (i := i) (by omega)]; rfl⟩
        have hx1 : x1 = forI (fun j d => dgT (S.2.1 j) (S.2.2.1 j) d) 0 3 8005 := by { rw [← hif, forI_e (by omega)] }
        exact loop169 7 0 _ (by omega) ⟨by omega, by omega, by rw [hx1]⟩
      ·
        obtain ⟨hrt, hn0, hn30, hC⟩ := hr5 i (by omega) (by omega)
        refine x_lload_n Z dX4_digest_11 rfl rfl ?_
        refine x_ldc2 Z q1396 dX4_digest_12 ?_
        refine x_lmul Z dX4_digest_15 ?_
        refine x_aload_n Z dX4_digest_16 rfl rfl ?_
        refine x_getf (ci := 5) (j := 2) (C := RX4) (T := TX4) (N := 7) Z inX4g rfl (by decide) q1043 rfl dX4_digest_17 (by assumption) rfl ?_
        refine x_iload_n Z dX4_digest_20 rfl rfl ?_
        refine x_iald Z dX4_digest_21 (by assumption) (by omega) (by omega) (by omega) ?_
        refine x_i2l Z dX4_digest_22 ?_
        refine x_ladd Z dX4_digest_23 ?_
        refine x_lstore_n (L' := [(1, _), (3, _), (0, _)]) Z dX4_digest_24 rfl (Nat.le_of_ble_eq_true rfl) rfl ?_
        refine x_iconst Z dX4_digest_25 ?_
        refine x_istore (L' := [(4, _), (1, _), (3, _), (0, _)]) Z dX4_digest_26 (Nat.le_of_ble_eq_true rfl) rfl ?_
        have loop28 : ∀ (fu : Nat) (j : Int) (x2 : Int64), S.2.1 i - j < (fu : Int) → (0 ≤ j ∧ j ≤ S.2.1 i ∧ forI (dgc (S.2.2.1 i)) j (S.2.1 i) x2 = dgC (S.2.1 i) (S.2.2.1 i) (dmx x1 (S.2.1 i))) → gX b s0 G (i.toNat) (31 * i.toNat) 28 [(4, iv j), (3, iv i), (1, .long x2), (0, rv R.1)] [] (w) := by
          intro fu; induction fu with
          | zero => intro j x2 hm hv; exact absurd hm (by omega)
          | succ fu ih28 =>
            intro j x2 hm hv
            obtain ⟨hj0, hjn, hif2⟩ := hv
            have hCj := hC j
            refine x_iload Z dX4_digest_28 rfl ?_
            refine x_aload_n Z dX4_digest_30 rfl rfl ?_
            refine x_getf (ci := 5) (j := 2) (C := RX4) (T := TX4) (N := 7) Z inX4g rfl (by decide) q1043 rfl dX4_digest_31 (by assumption) rfl ?_
            refine x_iload_n Z dX4_digest_34 rfl rfl ?_
            refine x_iald Z dX4_digest_35 (by assumption) (by omega) (by omega) (by omega) ?_
            refine x_icmp_ge Z 82 dX4_digest_36 (by decide) ⟨by omega, by omega⟩ ⟨by omega, by omega⟩ (fun c36 => ?_) (fun c36 => ?_)
            ·
              refine x_iconst Z dX4_digest_82 ?_
              refine x_istore (L' := [(4, _), (3, _), (1, _), (0, _)]) Z dX4_digest_83 (Nat.le_of_ble_eq_true rfl) rfl ?_
              have loop85 : ∀ (fu : Nat) (j : Int) (x3 : Int64), 14 - j < (fu : Int) → (0 ≤ j ∧ j ≤ 14 ∧ forI (dgq (S.2.1 i) (S.2.2.1 i)) j 14 x3 = dgQ (S.2.1 i) (S.2.2.1 i) (dgC (S.2.1 i) (S.2.2.1 i) (dmx x1 (S.2.1 i)))) → gX b s0 G (i.toNat) (31 * i.toNat) 85 [(4, iv j), (3, iv i), (1, .long x3), (0, rv R.1)] [] (w) := by
                intro fu; induction fu with
                | zero => intro j x3 hm hv; exact absurd hm (by omega)
                | succ fu ih85 =>
                  intro j x3 hm hv
                  obtain ⟨hj0, hjn, hif3⟩ := hv
                  refine x_iload Z dX4_digest_85 rfl ?_
                  refine x_bipush Z dX4_digest_87 (by decide +kernel) ?_
                  refine x_icmp_ge Z 113 dX4_digest_89 (by decide) ⟨by omega, by omega⟩ ⟨by omega, by omega⟩ (fun c89 => ?_) (fun c89 => ?_)
                  ·
                    refine x_lload_n Z dX4_digest_113 rfl rfl ?_
                    refine x_ldc2 Z q1396 dX4_digest_114 ?_
                    refine x_lmul Z dX4_digest_117 ?_
                    refine x_aload_n Z dX4_digest_118 rfl rfl ?_
                    refine x_iload_n Z dX4_digest_119 rfl rfl ?_
                    refine x_callV (ci := 5) (C := RX4) (T := TX4) (N := 7) Z okX4_faultOf q1309 q1311 q27 rfl dX4_digest_120 (c_X4_faultOf h0 htr hS (by omega) (by omega)) hS.1 ⟨Nat.le_of_ble_eq_true rfl, Nat.le_of_ble_eq_true rfl, (by show _ + 0 ≤ 6; omega), (by show _ + 0 ≤ 186; omega)⟩ rfl rfl (Nat.le_of_ble_eq_true rfl) (fun v9 w9 hR => ?_)
                    obtain ⟨rfl, e9⟩ := hR
                    refine x_ew e9 ?_
                    simp only [Option.toList_some, Option.toList_none, List.cons_append, List.nil_append]
                    refine x_i2l Z dX4_digest_123 ?_
                    refine x_ladd Z dX4_digest_124 ?_
                    refine x_ldc2 Z q1396 dX4_digest_125 ?_
                    refine x_lmul Z dX4_digest_128 ?_
                    refine x_aload_n Z dX4_digest_129 rfl rfl ?_
                    refine x_iload_n Z dX4_digest_130 rfl rfl ?_
                    refine x_callV (ci := 5) (C := RX4) (T := TX4) (N := 7) Z okX4_piecesOf q1325 q1327 q28 rfl dX4_digest_131 (c_X4_piecesOf h0 htr hS (by omega) (by omega)) hS.1 ⟨Nat.le_of_ble_eq_true rfl, Nat.le_of_ble_eq_true rfl, (by show _ + 0 ≤ 6; omega), (by show _ + 0 ≤ 186; omega)⟩ rfl rfl (Nat.le_of_ble_eq_true rfl) (fun v9 w9 hR => ?_)
                    obtain ⟨zp, rfl, e9, hzp1, hpp⟩ := hR
                    refine x_ew e9 ?_
                    simp only [Option.toList_some, Option.toList_none, List.cons_append, List.nil_append]
                    refine x_i2l Z dX4_digest_134 ?_
                    refine x_ladd Z dX4_digest_135 ?_
                    refine x_lstore_n (L' := [(1, _), (4, _), (3, _), (0, _)]) Z dX4_digest_136 rfl (Nat.le_of_ble_eq_true rfl) rfl ?_
                    refine x_lload_n Z dX4_digest_137 rfl rfl ?_
                    refine x_ldc2 Z q1396 dX4_digest_138 ?_
                    refine x_lmul Z dX4_digest_141 ?_
                    refine x_aload_n Z dX4_digest_142 rfl rfl ?_
                    refine x_iload_n Z dX4_digest_143 rfl rfl ?_
                    refine x_callV (ci := 5) (C := RX4) (T := TX4) (N := 7) Z okX4_cutsOf q1341 q1343 q29 rfl dX4_digest_144 (c_X4_cutsOf h0 htr hS (by omega) (by omega)) hS.1 ⟨Nat.le_of_ble_eq_true rfl, Nat.le_of_ble_eq_true rfl, (by show _ + 0 ≤ 6; omega), (by show _ + 0 ≤ 186; omega)⟩ rfl rfl (Nat.le_of_ble_eq_true rfl) (fun v9 w9 hR => ?_)
                    obtain ⟨zc, rfl, e9, hzc, hpc⟩ := hR
                    refine x_ew e9 ?_
                    simp only [Option.toList_some, Option.toList_none, List.cons_append, List.nil_append]
                    refine x_i2l Z dX4_digest_147 ?_
                    refine x_ladd Z dX4_digest_148 ?_
                    refine x_ldc2 Z q1396 dX4_digest_149 ?_
                    refine x_lmul Z dX4_digest_152 ?_
                    refine x_aload_n Z dX4_digest_153 rfl rfl ?_
                    refine x_iload_n Z dX4_digest_154 rfl rfl ?_
                    refine x_callV (ci := 5) (C := RX4) (T := TX4) (N := 7) Z okX4_fewestOf q1357 q1359 q31 rfl dX4_digest_155 (c_X4_fewestOf h0 htr hS (by omega) (by omega)) hS.1 ⟨Nat.le_of_ble_eq_true rfl, Nat.le_of_ble_eq_true rfl, (by show _ + 1 ≤ 6; omega), (by show _ + 31 ≤ 186; omega)⟩ rfl rfl (Nat.le_of_ble_eq_true rfl) (fun v9 w9 hR => ?_)
                    obtain ⟨zf, rfl, e9, hzf1, hpf⟩ := hR
                    refine x_ew e9 ?_
                    simp only [Option.toList_some, Option.toList_none, List.cons_append, List.nil_append]
                    refine x_i2l Z dX4_digest_158 ?_
                    refine x_ladd Z dX4_digest_159 ?_
                    refine x_lstore_n (L' := [(1, _), (4, _), (3, _), (0, _)]) Z dX4_digest_160 rfl (Nat.le_of_ble_eq_true rfl) rfl ?_
                    refine x_iinc (L' := [(3, _), (1, _), (4, _), (0, _)]) Z dX4_digest_161 rfl (Nat.le_of_ble_eq_true rfl) rfl ?_
                    refine x_goto Z 6 dX4_digest_164 (by decide) ?_
                    refine x_sub [0, 1, 3] rfl ?_
                    have hcv := cts_v (n := S.2.1 i) (C := S.2.2.1 i) hn0 hn30 hzc hpc
                    have hpv := pcs_v (n := S.2.1 i) (C := S.2.2.1 i) hn0 hn30 hpp
                    have hfz := fwz_v (n := S.2.1 i) (C := S.2.2.1 i) hn0 hpf
                    have hx3 : x3 = dgQ (S.2.1 i) (S.2.2.1 i) (dgC (S.2.1 i) (S.2.2.1 i) (dmx x1 (S.2.1 i))) := by { rw [← hif3, forI_e (by omega)] }
                    refine x_wd (k' := (i + 1).toNat) (n' := 31 * (i + 1).toNat) (by omega) (by omega) ?_
                    exact ih6 (i + 1) _ (by omega) ⟨by omega, by omega, by rw [← hif, forI_s (f := (fun j d => dgT (S.2.1 j) (S.2.2.1 j) d)) (i := i) (by omega)]; exact congrArg (forI (fun j d => dgT (S.2.1 j) (S.2.2.1 j) d) (i + 1) 3) (by unfold dgT; rw [hpv, hcv, hfz, ← hx3]; rfl)⟩
                  ·
                    refine x_lload_n Z dX4_digest_92 rfl rfl ?_
                    refine x_ldc2 Z q1396 dX4_digest_93 ?_
                    refine x_lmul Z dX4_digest_96 ?_
                    refine x_aload_n Z dX4_digest_97 rfl rfl ?_
                    refine x_iload_n Z dX4_digest_98 rfl rfl ?_
                    refine x_iload Z dX4_digest_99 rfl ?_
                    refine x_callV (ci := 5) (C := RX4) (T := TX4) (N := 7) Z okX4_countOf q1277 q1279 q25 rfl dX4_digest_101 (c_X4_countOf h0 htr hS (by omega) (by omega) (by omega) (by omega)) hS.1 ⟨Nat.le_of_ble_eq_true rfl, Nat.le_of_ble_eq_true rfl, (by show _ + 0 ≤ 6; omega), (by show _ + 0 ≤ 186; omega)⟩ rfl rfl (Nat.le_of_ble_eq_true rfl) (fun v9 w9 hR => ?_)
                    obtain ⟨rfl, e9⟩ := hR
                    refine x_ew e9 ?_
                    simp only [Option.toList_some, Option.toList_none, List.cons_append, List.nil_append]
                    refine x_i2l Z dX4_digest_104 ?_
                    refine x_ladd Z dX4_digest_105 ?_
                    refine x_lstore_n (L' := [(1, _), (4, _), (3, _), (0, _)]) Z dX4_digest_106 rfl (Nat.le_of_ble_eq_true rfl) rfl ?_
                    refine x_iinc (L' := [(4, _), (1, _), (3, _), (0, _)]) Z dX4_digest_107 rfl (Nat.le_of_ble_eq_true rfl) rfl ?_
                    refine x_goto Z 85 dX4_digest_110 (by decide) ?_
                    refine x_sub [0, 2, 1, 3] rfl ?_
                    exact ih85 (j + 1) _ (by omega) ⟨by omega, by omega, by rw [← hif3, forI_s (f := dgq (S.2.1 i) (S.2.2.1 i)) (i := j) (by omega)]; rfl⟩
              have hx2 : x2 = dgC (S.2.1 i) (S.2.2.1 i) (dmx x1 (S.2.1 i)) := by { rw [← hif2, forI_e (by omega)] }
              exact loop85 20 0 _ (by omega) ⟨by omega, by omega, by rw [← hx2]; rfl⟩
            ·
              refine x_lload_n Z dX4_digest_39 rfl rfl ?_
              refine x_ldc2 Z q1396 dX4_digest_40 ?_
              refine x_lmul Z dX4_digest_43 ?_
              refine x_aload_n Z dX4_digest_44 rfl rfl ?_
              refine x_getf (ci := 5) (j := 1) (C := RX4) (T := TX4) (N := 7) Z inX4g rfl (by decide) q1042 rfl dX4_digest_45 (by assumption) rfl ?_
              refine x_iload_n Z dX4_digest_48 rfl rfl ?_
              refine x_aaldR Z dX4_digest_49 hr3 (by decide) (by omega) (by omega) (hf3 i (by omega) (by omega)) ?_
              refine x_iload Z dX4_digest_50 rfl ?_
              refine x_iald Z dX4_digest_52 (by assumption) (by omega) (by omega) (by omega) ?_
              refine x_i2l Z dX4_digest_53 ?_
              refine x_ladd Z dX4_digest_54 ?_
              refine x_ldc2 Z q1396 dX4_digest_55 ?_
              refine x_lmul Z dX4_digest_58 ?_
              refine x_aload_n Z dX4_digest_59 rfl rfl ?_
              refine x_getf (ci := 5) (j := 0) (C := RX4) (T := TX4) (N := 7) Z inX4g rfl (by decide) q1041 rfl dX4_digest_60 (by assumption) rfl ?_
              refine x_aload_n Z dX4_digest_63 rfl rfl ?_
              refine x_getf (ci := 5) (j := 1) (C := RX4) (T := TX4) (N := 7) Z inX4g rfl (by decide) q1042 rfl dX4_digest_64 (by assumption) rfl ?_
              refine x_iload_n Z dX4_digest_67 rfl rfl ?_
              refine x_aaldR Z dX4_digest_68 hr3 (by decide) (by omega) (by omega) (hf3 i (by omega) (by omega)) ?_
              refine x_iload Z dX4_digest_69 rfl ?_
              refine x_iald Z dX4_digest_71 (by assumption) (by omega) (by omega) (by omega) ?_
              refine x_iald Z dX4_digest_72 (by assumption) (by omega) (by omega) (by omega) ?_
              refine x_i2l Z dX4_digest_73 ?_
              refine x_ladd Z dX4_digest_74 ?_
              refine x_lstore_n (L' := [(1, _), (4, _), (3, _), (0, _)]) Z dX4_digest_75 rfl (Nat.le_of_ble_eq_true rfl) rfl ?_
              refine x_iinc (L' := [(4, _), (1, _), (3, _), (0, _)]) Z dX4_digest_76 rfl (Nat.le_of_ble_eq_true rfl) rfl ?_
              refine x_goto Z 28 dX4_digest_79 (by decide) ?_
              refine x_sub [0, 2, 1, 3] rfl ?_
              exact ih28 (j + 1) _ (by omega) ⟨by omega, by omega, by rw [← hif2, forI_s (f := dgc (S.2.2.1 i)) (i := j) (by omega)]; rfl⟩
        refine x_sub [0, 2, 1, 3] rfl ?_
        exact loop28 40 0 _ (by omega) ⟨by omega, by omega, rfl⟩
  exact loop6 5 0 _ (by omega) ⟨by omega, by omega, rfl⟩
