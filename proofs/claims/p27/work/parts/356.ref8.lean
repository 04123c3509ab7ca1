/-! ref8: walks, by program -/
theorem q24 : Cond.selects RX4 yX4_joined yX4_joined ∈ gT := gt_s 24 rfl rfl
theorem q806 : Cond.instanceMethod yJ4_append_15ec4 ∈ gT := gt_4 51 rfl rfl
theorem q807 : Cond.selects RJ4 yJ4_append_15ec4 yJ4_append_15ec4 ∈ gT := gt_4 52 rfl rfl
theorem q808 : Cond.code yJ4_append_15ec4 cJ4_append_15ec4 2 (some (.object "java/lang/StringBuilder")) ∈ gT := gt_4 53 rfl rfl
theorem q1259 : Cond.methodLink RX4 141 yX4_joined ∈ gT := gt_6 24 rfl rfl
theorem q1261 : Cond.instanceMethod yX4_joined ∈ gT := gt_6 26 rfl rfl
theorem q1262 : Cond.code yX4_joined cX4_joined 5 (some (.object "java/lang/String")) ∈ gT := gt_6 27 rfl rfl
theorem q1263 : Cond.classLink RX4 123 RJ4 ∈ gT := gt_6 28 rfl rfl
theorem q1264 : Cond.methodLink RX4 125 yJ4_init_da8c8 ∈ gT := gt_6 29 rfl rfl
theorem q1266 : Cond.methodLink RX4 130 yJ4_append_15ec4 ∈ gT := gt_6 31 rfl rfl
theorem q1267 : Cond.methodLink RX4 134 yJ4_append_bf812 ∈ gT := gt_6 32 rfl rfl
theorem q1268 : Cond.methodLink RX4 137 yJ4_toString_0e30d ∈ gT := gt_6 33 rfl rfl
theorem okJ4_append_15ec4 : gOk yJ4_append_15ec4 cJ4_append_15ec4 2 (some (.object "java/lang/StringBuilder")) 1 := ⟨q808, q47, ⟨by decide +kernel, by decide +kernel⟩, by decide +kernel⟩
theorem okX4_joined : gOk yX4_joined cX4_joined 5 (some (.object "java/lang/String")) 2 := ⟨q1262, q38, ⟨by decide +kernel, by decide +kernel⟩, by decide +kernel⟩
abbrev rmc_X4_joined : Room := { frames := 10, cells := 126, slots := 16496, locals := 191 }
set_option maxRecDepth 100000 in
theorem c_X4_joined {l : Launch} {s0 : State} {G : gK} {w : wd} (h0 : gS0 s0) (htr : l.stackTraces = false) {R : rA} {S : rM} {t : Int} {o : Bool} (hS : rS G w R S) (t0 : 0 ≤ t) (t3 : t < 3) : gM l s0 G yX4_joined [Cond.code yX4_joined cX4_joined 5 (some (.object "java/lang/String"))] rmc_X4_joined [rv R.1, iv t, iv (b2 o)] w (fun v9 w' => (∃ q : Nat, v9 = some (rv q)) ∧ w' = w) (noX) := by
  refine g_of h0 htr (by decide +kernel) (Nat.le_of_ble_eq_true rfl) ?_
  intro b Z0 E
  have Z : gAm b l s0 G cX4_joined RX4 5 rmc_X4_joined := Z0
  refine x_el (L' := [(0, rv R.1), (1, iv t), (2, iv (b2 o))]) rfl ?_
  obtain ⟨hr1, hr2, ⟨f3, hr3, hf3⟩, hr4, hr5, hr6⟩ := id hS
  obtain ⟨hrt, hn0, hn30, hC⟩ := hr5 t (by omega) (by omega)
  obtain ⟨qe, ve, hqe, hRe⟩ := str_e h0
  obtain ⟨qs, vs, hqs, hRs⟩ := str_s h0
  have hSB := hS
  refine x_new (ci := 1) (C := RJ4) (T := TJ4) (N := 4) (fs := [.null, iv 0, iv 0, iv 0]) Z tyJ4 tyJ4_ok inJ4g rfl q1263 q604 q47 (fun j hj => by have h0 := hj; rcases (by omega : j = 0 ∨ j = 1 ∨ j = 2 ∨ j = 3) with rfl | rfl | rfl | rfl <;> (try rfl) <;> decide +kernel) (Nat.le_of_ble_eq_true rfl) (Nat.le_of_ble_eq_true rfl) dX4_joined_0 (fun n0 hn0 => ?_)
  refine x_gen fun w0 hw0 => ?_
  have hA0 : w0 n0 = some (eO 1 [.null, iv 0, iv 0, iv 0]) := by { rw [hw0, ws1_s] }
  have hf6 : fr (fun _ => False) w w0 := by { rw [hw0]; exact fr.rf.new hn0 }
  refine x_dup Z dX4_joined_3 rfl ?_
  refine x_callI Z okJ4_init_da8c8 q1264 q606 rfl dX4_joined_4 (c_J4_init_da8c8 h0 htr hA0) ⟨Nat.le_of_ble_eq_true rfl, Nat.le_of_ble_eq_true rfl, Nat.le_of_ble_eq_true rfl, Nat.le_of_ble_eq_true rfl⟩ rfl rfl (Nat.le_of_ble_eq_true rfl) (fun v9 w9 hR => ?_)
  obtain ⟨rfl, v0, hs0, hv0, hf9⟩ := hR
  have hI0 : sbI G w n0 0 w9 := ⟨v0, _, _, _, hs0, hn0, fr.none hf6 hv0 (fun h => h), fr.tr2 hf6 hn0 hf9⟩
  simp only [Option.toList_some, Option.toList_none, List.cons_append, List.nil_append]
  refine x_astore_n (L' := [(3, _), (0, _), (1, _), (2, _)]) Z dX4_joined_7 rfl (Nat.le_of_ble_eq_true rfl) rfl ?_
  refine x_iconst Z dX4_joined_8 ?_
  refine x_istore (L' := [(4, _), (3, _), (0, _), (1, _), (2, _)]) Z dX4_joined_9 (Nat.le_of_ble_eq_true rfl) rfl ?_
  have loop11 : ∀ (fu : Nat) (i n1 : Int) (w1 : wd), S.2.1 t - i < (fu : Int) → (0 ≤ i ∧ i ≤ S.2.1 t ∧ 0 ≤ n1 ∧ n1 ≤ 4 * i ∧ sbI G w n0 n1 w1) → gX b s0 G (4 + 4 * i.toNat) (30 + 540 * i.toNat) 11 [(4, iv i), (3, rv n0), (0, rv R.1), (1, iv t), (2, iv (b2 o))] [] (w1) := by
    intro fu; induction fu with
    | zero => intro i n1 w1 hm hv; exact absurd hm (by omega)
    | succ fu ih11 =>
      intro i n1 w1 hm hv
      obtain ⟨hi0, hin, hn1, hn4, v, ml, m, Cb, hs, hna, hnv, hfz⟩ := hv
      have hS := hSB.frm hfz (fun _ _ h => h)
      obtain ⟨hr1, hr2, ⟨f3, hr3, hf3⟩, hr4, hr5, hr6⟩ := id hS
      obtain ⟨hrt, hn0, hn30, hC⟩ := hr5 t (by omega) (by omega)
      try dsimp only [rT] at hr1 hf3 hr4 hr5 hr6
      try dsimp only [rT] at hrt hn0 hn30 hC
      have hCi := hC i
      have hki := kin_in (S.2.2.1 t i)
      have hd1 := dgs_in (kin (S.2.2.1 t i))
      have hd2 := dgs_in (S.2.2.1 t i)
      refine x_iload Z dX4_joined_11 rfl ?_
      refine x_aload_n Z dX4_joined_13 rfl rfl ?_
      refine x_getf (ci := 5) (j := 2) (C := RX4) (T := TX4) (N := 7) Z inX4g rfl (by decide) q1043 rfl dX4_joined_14 (by assumption) rfl ?_
      refine x_iload_n Z dX4_joined_17 rfl rfl ?_
      refine x_iald Z dX4_joined_18 (by assumption) (by omega) (by omega) (by omega) ?_
      refine x_icmp_ge Z 78 dX4_joined_19 (by decide) ⟨by omega, by omega⟩ ⟨by omega, by omega⟩ (fun c19 => ?_) (fun c19 => ?_)
      ·
        refine x_wd (k' := 124) (n' := 16230) (by omega) (by omega) ?_
        refine x_aload_n Z dX4_joined_78 rfl rfl ?_
        refine x_callV (ci := 1) (C := RJ4) (T := TJ4) (N := 4) Z okJ4_toString_0e30d q1268 q772 q773 rfl dX4_joined_79 (c_J4_toString_0e30d h0 htr hs) hs.1 ⟨Nat.le_of_ble_eq_true rfl, Nat.le_of_ble_eq_true rfl, Nat.le_of_ble_eq_true rfl, Nat.le_of_ble_eq_true rfl⟩ rfl rfl (Nat.le_of_ble_eq_true rfl) (fun v9 w9 hR => ?_)
        obtain ⟨q9, rfl, hq9, hf9⟩ := hR
        simp only [Option.toList_some, Option.toList_none, List.cons_append, List.nil_append]
        refine x_fg (fr.sub (hfz.tr hf9)) ?_
        exact x_aret Z E (⟨⟨_, rfl⟩, rfl⟩) dX4_joined_82 (Nat.le_of_ble_eq_true rfl) (Nat.le_of_ble_eq_true rfl)
      ·
        refine x_aload_n Z dX4_joined_22 rfl rfl ?_
        refine x_iload Z dX4_joined_23 rfl ?_
        refine x_if_ne Z 33 dX4_joined_25 (by decide) ⟨by omega, by omega⟩ (fun c25 => ?_) (fun c25 => ?_)
        ·
          refine x_ldcS Z hRs dX4_joined_33 ?_
          refine x_callV (ci := 1) (C := RJ4) (T := TJ4) (N := 4) Z okJ4_append_15ec4 q1266 q806 q807 rfl dX4_joined_35 (c_J4_append_15ec4 h0 htr hs (by first | exact hqe | exact hqs) (by omega) (by omega)) hs.1 ⟨Nat.le_of_ble_eq_true rfl, Nat.le_of_ble_eq_true rfl, (by show _ + 2 ≤ 126; omega), (by show _ + 268 ≤ 16496; omega)⟩ rfl rfl (Nat.le_of_ble_eq_true rfl) (fun v9 w9 hR => ?_)
          obtain ⟨rfl, hW⟩ := hR
          obtain ⟨v5, ml5, m5, C5, hs5, hna5, hnv5, hf5⟩ := sbI.step hs hna hnv hfz hW
          have hS := hSB.frm hf5 (fun _ _ h => h)
          obtain ⟨hr1, hr2, ⟨f3, hr3, hf3⟩, hr4, hr5, hr6⟩ := id hS
          obtain ⟨hrt, hn0, hn30, hC⟩ := hr5 t (by omega) (by omega)
          try dsimp only [rT] at hr1 hf3 hr4 hr5 hr6
          try dsimp only [rT] at hrt hn0 hn30 hC
          have hCi := hC i
          have hki := kin_in (S.2.2.1 t i)
          have hd1 := dgs_in (kin (S.2.2.1 t i))
          have hd2 := dgs_in (S.2.2.1 t i)
          simp only [Option.toList_some, Option.toList_none, List.cons_append, List.nil_append]
          refine x_iload_n Z dX4_joined_38 rfl rfl ?_
          refine x_ifb_eq Z 59 dX4_joined_39 (by decide) (fun c39 => ?_) (fun c39 => ?_)
          ·
            refine x_aload_n Z dX4_joined_59 rfl rfl ?_
            refine x_getf (ci := 5) (j := 1) (C := RX4) (T := TX4) (N := 7) Z inX4g rfl (by decide) q1042 rfl dX4_joined_60 (by assumption) rfl ?_
            refine x_iload_n Z dX4_joined_63 rfl rfl ?_
            refine x_aaldR Z dX4_joined_64 hr3 (by decide) (by omega) (by omega) (hf3 t (by omega) (by omega)) ?_
            refine x_iload Z dX4_joined_65 rfl ?_
            refine x_iald Z dX4_joined_67 (by assumption) (by omega) (by omega) (by omega) ?_
            refine x_callV (ci := 1) (C := RJ4) (T := TJ4) (N := 4) Z okJ4_append_bf812 q1267 q738 q739 rfl dX4_joined_68 (c_J4_append_bf812 h0 htr hs5 (by omega) (by omega) (by omega)) hs5.1 ⟨Nat.le_of_ble_eq_true rfl, Nat.le_of_ble_eq_true rfl, (by show _ + 2 ≤ 126; omega), (by show _ + 268 ≤ 16496; omega)⟩ rfl rfl (Nat.le_of_ble_eq_true rfl) (fun v9 w9 hR => ?_)
            obtain ⟨rfl, hW2⟩ := hR
            have hI2 := sbI.step hs5 hna5 hnv5 hf5 hW2
            simp only [Option.toList_some, Option.toList_none, List.cons_append, List.nil_append]
            refine x_pop Z dX4_joined_71 rfl ?_
            refine x_iinc (L' := [(4, _), (3, _), (0, _), (1, _), (2, _)]) Z dX4_joined_72 rfl (Nat.le_of_ble_eq_true rfl) rfl ?_
            refine x_goto Z 11 dX4_joined_75 (by decide) ?_
            refine x_wd (k' := 4 + 4 * (i + 1).toNat) (n' := 30 + 540 * (i + 1).toNat) (by omega) (by omega) ?_
            exact ih11 (i + 1) _ _ (by omega) ⟨by omega, by omega, by omega, by omega, hI2⟩
          ·
            refine x_aload_n Z dX4_joined_42 rfl rfl ?_
            refine x_getf (ci := 5) (j := 0) (C := RX4) (T := TX4) (N := 7) Z inX4g rfl (by decide) q1041 rfl dX4_joined_43 (by assumption) rfl ?_
            refine x_aload_n Z dX4_joined_46 rfl rfl ?_
            refine x_getf (ci := 5) (j := 1) (C := RX4) (T := TX4) (N := 7) Z inX4g rfl (by decide) q1042 rfl dX4_joined_47 (by assumption) rfl ?_
            refine x_iload_n Z dX4_joined_50 rfl rfl ?_
            refine x_aaldR Z dX4_joined_51 hr3 (by decide) (by omega) (by omega) (hf3 t (by omega) (by omega)) ?_
            refine x_iload Z dX4_joined_52 rfl ?_
            refine x_iald Z dX4_joined_54 (by assumption) (by omega) (by omega) (by omega) ?_
            refine x_iald Z dX4_joined_55 (by assumption) (by omega) (by omega) (by omega) ?_
            refine x_goto Z 68 dX4_joined_56 (by decide) ?_
            refine x_callV (ci := 1) (C := RJ4) (T := TJ4) (N := 4) Z okJ4_append_bf812 q1267 q738 q739 rfl dX4_joined_68 (c_J4_append_bf812 h0 htr hs5 (by omega) (by omega) (by omega)) hs5.1 ⟨Nat.le_of_ble_eq_true rfl, Nat.le_of_ble_eq_true rfl, (by show _ + 2 ≤ 126; omega), (by show _ + 268 ≤ 16496; omega)⟩ rfl rfl (Nat.le_of_ble_eq_true rfl) (fun v9 w9 hR => ?_)
            obtain ⟨rfl, hW2⟩ := hR
            have hI2 := sbI.step hs5 hna5 hnv5 hf5 hW2
            simp only [Option.toList_some, Option.toList_none, List.cons_append, List.nil_append]
            refine x_pop Z dX4_joined_71 rfl ?_
            refine x_iinc (L' := [(4, _), (3, _), (0, _), (1, _), (2, _)]) Z dX4_joined_72 rfl (Nat.le_of_ble_eq_true rfl) rfl ?_
            refine x_goto Z 11 dX4_joined_75 (by decide) ?_
            refine x_wd (k' := 4 + 4 * (i + 1).toNat) (n' := 30 + 540 * (i + 1).toNat) (by omega) (by omega) ?_
            exact ih11 (i + 1) _ _ (by omega) ⟨by omega, by omega, by omega, by omega, hI2⟩
        ·
          refine x_ldcS Z hRe dX4_joined_28 ?_
          refine x_goto Z 35 dX4_joined_30 (by decide) ?_
          refine x_callV (ci := 1) (C := RJ4) (T := TJ4) (N := 4) Z okJ4_append_15ec4 q1266 q806 q807 rfl dX4_joined_35 (c_J4_append_15ec4 h0 htr hs (by first | exact hqe | exact hqs) (by omega) (by omega)) hs.1 ⟨Nat.le_of_ble_eq_true rfl, Nat.le_of_ble_eq_true rfl, (by show _ + 2 ≤ 126; omega), (by show _ + 268 ≤ 16496; omega)⟩ rfl rfl (Nat.le_of_ble_eq_true rfl) (fun v9 w9 hR => ?_)
          obtain ⟨rfl, hW⟩ := hR
          obtain ⟨v5, ml5, m5, C5, hs5, hna5, hnv5, hf5⟩ := sbI.step hs hna hnv hfz hW
          have hS := hSB.frm hf5 (fun _ _ h => h)
          obtain ⟨hr1, hr2, ⟨f3, hr3, hf3⟩, hr4, hr5, hr6⟩ := id hS
          obtain ⟨hrt, hn0, hn30, hC⟩ := hr5 t (by omega) (by omega)
          try dsimp only [rT] at hr1 hf3 hr4 hr5 hr6
          try dsimp only [rT] at hrt hn0 hn30 hC
          have hCi := hC i
          have hki := kin_in (S.2.2.1 t i)
          have hd1 := dgs_in (kin (S.2.2.1 t i))
          have hd2 := dgs_in (S.2.2.1 t i)
          simp only [Option.toList_some, Option.toList_none, List.cons_append, List.nil_append]
          refine x_iload_n Z dX4_joined_38 rfl rfl ?_
          refine x_ifb_eq Z 59 dX4_joined_39 (by decide) (fun c39 => ?_) (fun c39 => ?_)
          ·
            refine x_aload_n Z dX4_joined_59 rfl rfl ?_
            refine x_getf (ci := 5) (j := 1) (C := RX4) (T := TX4) (N := 7) Z inX4g rfl (by decide) q1042 rfl dX4_joined_60 (by assumption) rfl ?_
            refine x_iload_n Z dX4_joined_63 rfl rfl ?_
            refine x_aaldR Z dX4_joined_64 hr3 (by decide) (by omega) (by omega) (hf3 t (by omega) (by omega)) ?_
            refine x_iload Z dX4_joined_65 rfl ?_
            refine x_iald Z dX4_joined_67 (by assumption) (by omega) (by omega) (by omega) ?_
            refine x_callV (ci := 1) (C := RJ4) (T := TJ4) (N := 4) Z okJ4_append_bf812 q1267 q738 q739 rfl dX4_joined_68 (c_J4_append_bf812 h0 htr hs5 (by omega) (by omega) (by omega)) hs5.1 ⟨Nat.le_of_ble_eq_true rfl, Nat.le_of_ble_eq_true rfl, (by show _ + 2 ≤ 126; omega), (by show _ + 268 ≤ 16496; omega)⟩ rfl rfl (Nat.le_of_ble_eq_true rfl) (fun v9 w9 hR => ?_)
            obtain ⟨rfl, hW2⟩ := hR
            have hI2 := sbI.step hs5 hna5 hnv5 hf5 hW2
            simp only [Option.toList_some, Option.toList_none, List.cons_append, List.nil_append]
            refine x_pop Z dX4_joined_71 rfl ?_
            refine x_iinc (L' := [(4, _), (3, _), (0, _), (1, _), (2, _)]) Z dX4_joined_72 rfl (Nat.le_of_ble_eq_true rfl) rfl ?_
            refine x_goto Z 11 dX4_joined_75 (by decide) ?_
            refine x_wd (k' := 4 + 4 * (i + 1).toNat) (n' := 30 + 540 * (i + 1).toNat) (by omega) (by omega) ?_
            exact ih11 (i + 1) _ _ (by omega) ⟨by omega, by omega, by omega, by omega, hI2⟩
          ·
            refine x_aload_n Z dX4_joined_42 rfl rfl ?_
            refine x_getf (ci := 5) (j := 0) (C := RX4) (T := TX4) (N := 7) Z inX4g rfl (by decide) q1041 rfl dX4_joined_43 (by assumption) rfl ?_
            refine x_aload_n Z dX4_joined_46 rfl rfl ?_
            refine x_getf (ci := 5) (j := 1) (C := RX4) (T := TX4) (N := 7) Z inX4g rfl (by decide) q1042 rfl dX4_joined_47 (by assumption) rfl ?_
            refine x_iload_n Z dX4_joined_50 rfl rfl ?_
            refine x_aaldR Z dX4_joined_51 hr3 (by decide) (by omega) (by omega) (hf3 t (by omega) (by omega)) ?_
            refine x_iload Z dX4_joined_52 rfl ?_
            refine x_iald Z dX4_joined_54 (by assumption) (by omega) (by omega) (by omega) ?_
            refine x_iald Z dX4_joined_55 (by assumption) (by omega) (by omega) (by omega) ?_
            refine x_goto Z 68 dX4_joined_56 (by decide) ?_
            refine x_callV (ci := 1) (C := RJ4) (T := TJ4) (N := 4) Z okJ4_append_bf812 q1267 q738 q739 rfl dX4_joined_68 (c_J4_append_bf812 h0 htr hs5 (by omega) (by omega) (by omega)) hs5.1 ⟨Nat.le_of_ble_eq_true rfl, Nat.le_of_ble_eq_true rfl, (by show _ + 2 ≤ 126; omega), (by show _ + 268 ≤ 16496; omega)⟩ rfl rfl (Nat.le_of_ble_eq_true rfl) (fun v9 w9 hR => ?_)
            obtain ⟨rfl, hW2⟩ := hR
            have hI2 := sbI.step hs5 hna5 hnv5 hf5 hW2
            simp only [Option.toList_some, Option.toList_none, List.cons_append, List.nil_append]
            refine x_pop Z dX4_joined_71 rfl ?_
            refine x_iinc (L' := [(4, _), (3, _), (0, _), (1, _), (2, _)]) Z dX4_joined_72 rfl (Nat.le_of_ble_eq_true rfl) rfl ?_
            refine x_goto Z 11 dX4_joined_75 (by decide) ?_
            refine x_wd (k' := 4 + 4 * (i + 1).toNat) (n' := 30 + 540 * (i + 1).toNat) (by omega) (by omega) ?_
            exact ih11 (i + 1) _ _ (by omega) ⟨by omega, by omega, by omega, by omega, hI2⟩
  refine x_wd (k' := 4 + 4 * (0 : Int).toNat) (n' := 30 + 540 * (0 : Int).toNat) (Nat.le_of_ble_eq_true rfl) (Nat.le_of_ble_eq_true rfl) ?_
  exact loop11 40 0 0 _ (by omega) ⟨by omega, by omega, by omega, by omega, hI0⟩
abbrev rmc_X4_signs : Room := { frames := 11, cells := 126, slots := 16496, locals := 215 }
set_option maxRecDepth 100000 in
theorem c_X4_signs {l : Launch} {s0 : State} {G : gK} {w : wd} (h0 : gS0 s0) (htr : l.stackTraces = false) {R : rA} {S : rM} {t : Int} (hS : rS G w R S) (hit : inr t) : gM l s0 G yX4_signs [Cond.code yX4_signs cX4_signs 2 (some (.object "java/lang/String"))] rmc_X4_signs [rv R.1, iv t] w (fun v w' => (∃ q : Nat, v = some (rv q)) ∧ ∃ T : Int, rS G w' R (rT S T) ∧ fr (rP R S.1) w w') (noX) := by
  refine g_of h0 htr (by decide +kernel) (Nat.le_of_ble_eq_true rfl) ?_
  intro b Z0 E
  have Z : gAm b l s0 G cX4_signs RX4 2 rmc_X4_signs := Z0
  refine x_el (L' := [(0, rv R.1), (1, iv t)]) rfl ?_
  obtain ⟨hr1, hr2, ⟨f3, hr3, hf3⟩, hr4, hr5, hr6⟩ := id hS
  have hf0 : fr (rP R S.1) w w := fr.rf
  obtain ⟨qe, ve, hqe, hRe⟩ := str_e h0
  obtain ⟨qs, vs, hqs, hRs⟩ := str_s h0
  have join13 : ∀ (c1 : Bool), (c1 = true ↔ ¬ (0 ≤ t ∧ t < 3)) → gX b s0 G (0) (0) 13 [(0, rv R.1), (1, iv t)] [iv (b2 c1), rv R.1] (w) := by
    intro c1 hv
    have hc1 := hv
    refine x_callV (ci := 5) (C := RX4) (T := TX4) (N := 7) Z okX4_isThrown_ q1106 q1108 q15 rfl dX4_signs_13 (c_X4_isThrown_ h0 htr hS) hS.1 ⟨Nat.le_of_ble_eq_true rfl, Nat.le_of_ble_eq_true rfl, Nat.le_of_ble_eq_true rfl, Nat.le_of_ble_eq_true rfl⟩ rfl rfl (Nat.le_of_ble_eq_true rfl) (fun v9 w9 hR => ?_)
    obtain ⟨rfl, hS, hf9⟩ := hR
    have hf0 := hf0.tr hf9
    simp only [Option.toList_some, Option.toList_none, List.cons_append, List.nil_append]
    refine x_ifb_eq Z 24 dX4_signs_16 (by decide) (fun c16 => ?_) (fun c16 => ?_)
    ·
      have ea := c16
      have o1 := bq_n hc1 ea
      subst ea
      obtain ⟨hr1, hr2, ⟨f3, hr3, hf3⟩, hr4, hr5, hr6⟩ := id hS
      obtain ⟨hrt, hn0, hn30, hC⟩ := hr5 t (by omega) (by omega)
      try dsimp only [rT] at hr1 hf3 hr4 hr5 hr6
      try dsimp only [rT] at hrt hn0 hn30 hC
      have en : (rT S (th2 false false)).2.1 t = S.2.1 t := rfl
      refine x_aload_n Z dX4_signs_24 rfl rfl ?_
      refine x_iload_n Z dX4_signs_25 rfl rfl ?_
      refine x_ib false Z dX4_signs_26 (by decide) ?_
      refine x_callV (ci := 5) (C := RX4) (T := TX4) (N := 7) Z okX4_joined q1259 q1261 q24 rfl dX4_signs_27 (c_X4_joined h0 htr hS (by omega) (by omega)) hS.1 ⟨Nat.le_of_ble_eq_true rfl, Nat.le_of_ble_eq_true rfl, Nat.le_of_ble_eq_true rfl, Nat.le_of_ble_eq_true rfl⟩ rfl rfl (Nat.le_of_ble_eq_true rfl) (fun v9 w9 hR => ?_)
      obtain ⟨⟨q9, rfl⟩, e9⟩ := hR
      refine x_ew e9 ?_
      simp only [Option.toList_some, Option.toList_none, List.cons_append, List.nil_append]
      exact x_aret Z E (⟨⟨_, rfl⟩, _, hS, hf0⟩) dX4_signs_30 (Nat.le_of_ble_eq_true rfl) (Nat.le_of_ble_eq_true rfl)
    ·
      have hbad := c16
      refine x_ldcS Z hRe dX4_signs_19 ?_
      refine x_goto Z 30 dX4_signs_21 (by decide) ?_
      exact x_aret Z E (⟨⟨_, rfl⟩, _, hS, hf0⟩) dX4_signs_30 (Nat.le_of_ble_eq_true rfl) (Nat.le_of_ble_eq_true rfl)
  refine x_aload_n Z dX4_signs_0 rfl rfl ?_
  refine x_iload_n Z dX4_signs_1 rfl rfl ?_
  refine x_callS Z okX4_is q1071 q1072 dX4_signs_2 (c_X4_is h0 htr (by assumption)) ⟨Nat.le_of_ble_eq_true rfl, Nat.le_of_ble_eq_true rfl, Nat.le_of_ble_eq_true rfl, Nat.le_of_ble_eq_true rfl⟩ rfl rfl (Nat.le_of_ble_eq_true rfl) (fun v9 w9 hR => ?_)
  obtain ⟨o9, rfl, e9, hq⟩ := hR
  refine x_ew e9 ?_
  simp only [Option.toList_some, Option.toList_none, List.cons_append, List.nil_append]
  refine x_ifb_ne Z 12 dX4_signs_5 (by decide) (fun c5 => ?_) (fun c5 => ?_)
  ·
    have f5 := bq_t hq c5
    refine x_ib false Z dX4_signs_12 (by decide) ?_
    exact join13 _ (by first | exact ⟨fun _ => by omega, fun _ => rfl⟩ | exact ⟨fun h => absurd h (by decide), fun h => (h (by omega)).elim⟩)
  ·
    have f5 := bq_f hq c5
    refine x_ib true Z dX4_signs_8 (by decide) ?_
    refine x_goto Z 13 dX4_signs_9 (by decide) ?_
    exact join13 _ (by first | exact ⟨fun _ => by omega, fun _ => rfl⟩ | exact ⟨fun h => absurd h (by decide), fun h => (h (by omega)).elim⟩)
abbrev rmc_X4_kindsOf : Room := { frames := 11, cells := 126, slots := 16496, locals := 215 }
set_option maxRecDepth 100000 in
theorem c_X4_kindsOf {l : Launch} {s0 : State} {G : gK} {w : wd} (h0 : gS0 s0) (htr : l.stackTraces = false) {R : rA} {S : rM} {t : Int} (hS : rS G w R S) (hit : inr t) : gM l s0 G yX4_kindsOf [Cond.code yX4_kindsOf cX4_kindsOf 2 (some (.object "java/lang/String"))] rmc_X4_kindsOf [rv R.1, iv t] w (fun v w' => (∃ q : Nat, v = some (rv q)) ∧ ∃ T : Int, rS G w' R (rT S T) ∧ fr (rP R S.1) w w') (noX) := by
  refine g_of h0 htr (by decide +kernel) (Nat.le_of_ble_eq_true rfl) ?_
  intro b Z0 E
  have Z : gAm b l s0 G cX4_kindsOf RX4 2 rmc_X4_kindsOf := Z0
  refine x_el (L' := [(0, rv R.1), (1, iv t)]) rfl ?_
  obtain ⟨hr1, hr2, ⟨f3, hr3, hf3⟩, hr4, hr5, hr6⟩ := id hS
  have hf0 : fr (rP R S.1) w w := fr.rf
  obtain ⟨qe, ve, hqe, hRe⟩ := str_e h0
  obtain ⟨qs, vs, hqs, hRs⟩ := str_s h0
  have join13 : ∀ (c1 : Bool), (c1 = true ↔ ¬ (0 ≤ t ∧ t < 3)) → gX b s0 G (0) (0) 13 [(0, rv R.1), (1, iv t)] [iv (b2 c1), rv R.1] (w) := by
    intro c1 hv
    have hc1 := hv
    refine x_callV (ci := 5) (C := RX4) (T := TX4) (N := 7) Z okX4_isThrown_ q1106 q1108 q15 rfl dX4_kindsOf_13 (c_X4_isThrown_ h0 htr hS) hS.1 ⟨Nat.le_of_ble_eq_true rfl, Nat.le_of_ble_eq_true rfl, Nat.le_of_ble_eq_true rfl, Nat.le_of_ble_eq_true rfl⟩ rfl rfl (Nat.le_of_ble_eq_true rfl) (fun v9 w9 hR => ?_)
    obtain ⟨rfl, hS, hf9⟩ := hR
    have hf0 := hf0.tr hf9
    simp only [Option.toList_some, Option.toList_none, List.cons_append, List.nil_append]
    refine x_ifb_eq Z 24 dX4_kindsOf_16 (by decide) (fun c16 => ?_) (fun c16 => ?_)
    ·
      have ea := c16
      have o1 := bq_n hc1 ea
      subst ea
      obtain ⟨hr1, hr2, ⟨f3, hr3, hf3⟩, hr4, hr5, hr6⟩ := id hS
      obtain ⟨hrt, hn0, hn30, hC⟩ := hr5 t (by omega) (by omega)
      try dsimp only [rT] at hr1 hf3 hr4 hr5 hr6
      try dsimp only [rT] at hrt hn0 hn30 hC
      have en : (rT S (th2 false false)).2.1 t = S.2.1 t := rfl
      refine x_aload_n Z dX4_kindsOf_24 rfl rfl ?_
      refine x_iload_n Z dX4_kindsOf_25 rfl rfl ?_
      refine x_ib true Z dX4_kindsOf_26 (by decide) ?_
      refine x_callV (ci := 5) (C := RX4) (T := TX4) (N := 7) Z okX4_joined q1259 q1261 q24 rfl dX4_kindsOf_27 (c_X4_joined h0 htr hS (by omega) (by omega)) hS.1 ⟨Nat.le_of_ble_eq_true rfl, Nat.le_of_ble_eq_true rfl, Nat.le_of_ble_eq_true rfl, Nat.le_of_ble_eq_true rfl⟩ rfl rfl (Nat.le_of_ble_eq_true rfl) (fun v9 w9 hR => ?_)
      obtain ⟨⟨q9, rfl⟩, e9⟩ := hR
      refine x_ew e9 ?_
      simp only [Option.toList_some, Option.toList_none, List.cons_append, List.nil_append]
      exact x_aret Z E (⟨⟨_, rfl⟩, _, hS, hf0⟩) dX4_kindsOf_30 (Nat.le_of_ble_eq_true rfl) (Nat.le_of_ble_eq_true rfl)
    ·
      have hbad := c16
      refine x_ldcS Z hRe dX4_kindsOf_19 ?_
      refine x_goto Z 30 dX4_kindsOf_21 (by decide) ?_
      exact x_aret Z E (⟨⟨_, rfl⟩, _, hS, hf0⟩) dX4_kindsOf_30 (Nat.le_of_ble_eq_true rfl) (Nat.le_of_ble_eq_true rfl)
  refine x_aload_n Z dX4_kindsOf_0 rfl rfl ?_
  refine x_iload_n Z dX4_kindsOf_1 rfl rfl ?_
  refine x_callS Z okX4_is q1071 q1072 dX4_kindsOf_2 (c_X4_is h0 htr (by assumption)) ⟨Nat.le_of_ble_eq_true rfl, Nat.le_of_ble_eq_true rfl, Nat.le_of_ble_eq_true rfl, Nat.le_of_ble_eq_true rfl⟩ rfl rfl (Nat.le_of_ble_eq_true rfl) (fun v9 w9 hR => ?_)
  obtain ⟨o9, rfl, e9, hq⟩ := hR
  refine x_ew e9 ?_
  simp only [Option.toList_some, Option.toList_none, List.cons_append, List.nil_append]
  refine x_ifb_ne Z 12 dX4_kindsOf_5 (by decide) (fun c5 => ?_) (fun c5 => ?_)
  ·
    have f5 := bq_t hq c5
    refine x_ib false Z dX4_kindsOf_12 (by decide) ?_
    exact join13 _ (by first | exact ⟨fun _ => by omega, fun _ => rfl⟩ | exact ⟨fun h => absurd h (by decide), fun h => (h (by omega)).elim⟩)
  ·
    have f5 := bq_f hq c5
    refine x_ib true Z dX4_kindsOf_8 (by decide) ?_
    refine x_goto Z 13 dX4_kindsOf_9 (by decide) ?_
    exact join13 _ (by first | exact ⟨fun _ => by omega, fun _ => rfl⟩ | exact ⟨fun h => absurd h (by decide), fun h => (h (by omega)).elim⟩)
abbrev rmc_X4_sorts : Room := { frames := 10, cells := 126, slots := 16496, locals := 191 }
set_option maxRecDepth 100000 in
theorem c_X4_sorts {l : Launch} {s0 : State} {G : gK} {w : wd} (h0 : gS0 s0) (htr : l.stackTraces = false) {R : rA} {S : rM} {t : Int} (hS : rS G w R S) (hit : inr t) : gM l s0 G yX4_sorts [Cond.code yX4_sorts cX4_sorts 4 (some (.object "java/lang/String"))] rmc_X4_sorts [rv R.1, iv t] w (fun v w' => (∃ q : Nat, v = some (rv q)) ∧ ∃ T : Int, rS G w' R (rT S T) ∧ fr (rP R S.1) w w') (noX) := by
  refine g_of h0 htr (by decide +kernel) (Nat.le_of_ble_eq_true rfl) ?_
  intro b Z0 E
  have Z : gAm b l s0 G cX4_sorts RX4 4 rmc_X4_sorts := Z0
  refine x_el (L' := [(0, rv R.1), (1, iv t)]) rfl ?_
  obtain ⟨hr1, hr2, ⟨f3, hr3, hf3⟩, hr4, hr5, hr6⟩ := id hS
  have hf0 : fr (rP R S.1) w w := fr.rf
  obtain ⟨qe, ve, hqe, hRe⟩ := str_e h0
  obtain ⟨qs, vs, hqs, hRs⟩ := str_s h0
  have join13 : ∀ (c1 : Bool), (c1 = true ↔ ¬ (0 ≤ t ∧ t < 3)) → gX b s0 G (0) (0) 13 [(0, rv R.1), (1, iv t)] [iv (b2 c1), rv R.1] (w) := by
    intro c1 hv
    have hc1 := hv
    refine x_callV (ci := 5) (C := RX4) (T := TX4) (N := 7) Z okX4_isThrown_ q1106 q1108 q15 rfl dX4_sorts_13 (c_X4_isThrown_ h0 htr hS) hS.1 ⟨Nat.le_of_ble_eq_true rfl, Nat.le_of_ble_eq_true rfl, Nat.le_of_ble_eq_true rfl, Nat.le_of_ble_eq_true rfl⟩ rfl rfl (Nat.le_of_ble_eq_true rfl) (fun v9 w9 hR => ?_)
    obtain ⟨rfl, hS, hf9⟩ := hR
    have hf0 := hf0.tr hf9
    simp only [Option.toList_some, Option.toList_none, List.cons_append, List.nil_append]
    refine x_ifb_eq Z 22 dX4_sorts_16 (by decide) (fun c16 => ?_) (fun c16 => ?_)
    ·
      have ea := c16
      have o1 := bq_n hc1 ea
      subst ea
      obtain ⟨hr1, hr2, ⟨f3, hr3, hf3⟩, hr4, hr5, hr6⟩ := id hS
      obtain ⟨hrt, hn0, hn30, hC⟩ := hr5 t (by omega) (by omega)
      try dsimp only [rT] at hr1 hf3 hr4 hr5 hr6
      try dsimp only [rT] at hrt hn0 hn30 hC
      have en : (rT S (th2 false false)).2.1 t = S.2.1 t := rfl
      refine x_gen fun w8 hw8 => ?_
      rw [← hw8] at hS hf0
      have hSB := hS
      refine x_new (ci := 1) (C := RJ4) (T := TJ4) (N := 4) (fs := [.null, iv 0, iv 0, iv 0]) Z tyJ4 tyJ4_ok inJ4g rfl q1263 q604 q47 (fun j hj => by have h0 := hj; rcases (by omega : j = 0 ∨ j = 1 ∨ j = 2 ∨ j = 3) with rfl | rfl | rfl | rfl <;> (try rfl) <;> decide +kernel) (Nat.le_of_ble_eq_true rfl) (Nat.le_of_ble_eq_true rfl) dX4_sorts_22 (fun n22 hn22 => ?_)
      refine x_gen fun w0 hw0 => ?_
      have hA0 : w0 n22 = some (eO 1 [.null, iv 0, iv 0, iv 0]) := by { rw [hw0, ws1_s] }
      have hf6 : fr (fun _ => False) w8 w0 := by { rw [hw0]; exact fr.rf.new hn22 }
      refine x_dup Z dX4_sorts_25 rfl ?_
      refine x_callI Z okJ4_init_da8c8 q1264 q606 rfl dX4_sorts_26 (c_J4_init_da8c8 h0 htr hA0) ⟨Nat.le_of_ble_eq_true rfl, Nat.le_of_ble_eq_true rfl, Nat.le_of_ble_eq_true rfl, Nat.le_of_ble_eq_true rfl⟩ rfl rfl (Nat.le_of_ble_eq_true rfl) (fun v9 w9 hR => ?_)
      obtain ⟨rfl, v0, hs0, hv0, hf9⟩ := hR
      have hI0 : sbI G w8 n22 0 w9 := ⟨v0, _, _, _, hs0, hn22, fr.none hf6 hv0 (fun h => h), fr.tr2 hf6 hn22 hf9⟩
      simp only [Option.toList_some, Option.toList_none, List.cons_append, List.nil_append]
      refine x_astore_n (L' := [(2, _), (0, _), (1, _)]) Z dX4_sorts_29 rfl (Nat.le_of_ble_eq_true rfl) rfl ?_
      refine x_iconst Z dX4_sorts_30 ?_
      refine x_istore_n (L' := [(3, _), (2, _), (0, _), (1, _)]) Z dX4_sorts_31 rfl (Nat.le_of_ble_eq_true rfl) rfl ?_
      have loop32 : ∀ (fu : Nat) (i n1 : Int) (w1 : wd), S.2.1 t - i < (fu : Int) → (0 ≤ i ∧ i ≤ S.2.1 t ∧ 0 ≤ n1 ∧ n1 ≤ 4 * i ∧ sbI G w8 n22 n1 w1) → gX b s0 G (4 + 4 * i.toNat) (30 + 540 * i.toNat) 32 [(3, iv i), (2, rv n22), (0, rv R.1), (1, iv t)] [] (w1) := by
        intro fu; induction fu with
        | zero => intro i n1 w1 hm hv; exact absurd hm (by omega)
        | succ fu ih32 =>
          intro i n1 w1 hm hv
          obtain ⟨hi0, hin, hn1, hn4, v, ml, m, Cb, hs, hna, hnv, hfz⟩ := hv
          have hS := hSB.frm hfz (fun _ _ h => h)
          obtain ⟨hr1, hr2, ⟨f3, hr3, hf3⟩, hr4, hr5, hr6⟩ := id hS
          obtain ⟨hrt, hn0, hn30, hC⟩ := hr5 t (by omega) (by omega)
          try dsimp only [rT] at hr1 hf3 hr4 hr5 hr6
          try dsimp only [rT] at hrt hn0 hn30 hC
          have hCi := hC i
          have hki := kin_in (S.2.2.1 t i)
          have hd1 := dgs_in (kin (S.2.2.1 t i))
          have hd2 := dgs_in (S.2.2.1 t i)
          refine x_iload_n Z dX4_sorts_32 rfl rfl ?_
          refine x_aload_n Z dX4_sorts_33 rfl rfl ?_
          refine x_getf (ci := 5) (j := 2) (C := RX4) (T := TX4) (N := 7) Z inX4g rfl (by decide) q1043 rfl dX4_sorts_34 (by assumption) rfl ?_
          refine x_iload_n Z dX4_sorts_37 rfl rfl ?_
          refine x_iald Z dX4_sorts_38 (by assumption) (by omega) (by omega) (by omega) ?_
          refine x_icmp_ge Z 87 dX4_sorts_39 (by decide) ⟨by omega, by omega⟩ ⟨by omega, by omega⟩ (fun c39 => ?_) (fun c39 => ?_)
          ·
            refine x_wd (k' := 124) (n' := 16230) (by omega) (by omega) ?_
            refine x_aload_n Z dX4_sorts_87 rfl rfl ?_
            refine x_callV (ci := 1) (C := RJ4) (T := TJ4) (N := 4) Z okJ4_toString_0e30d q1268 q772 q773 rfl dX4_sorts_88 (c_J4_toString_0e30d h0 htr hs) hs.1 ⟨Nat.le_of_ble_eq_true rfl, Nat.le_of_ble_eq_true rfl, Nat.le_of_ble_eq_true rfl, Nat.le_of_ble_eq_true rfl⟩ rfl rfl (Nat.le_of_ble_eq_true rfl) (fun v9 w9 hR => ?_)
            obtain ⟨q9, rfl, hq9, hf9⟩ := hR
            simp only [Option.toList_some, Option.toList_none, List.cons_append, List.nil_append]
            refine x_fg (fr.sub (hfz.tr hf9)) ?_
            exact x_aret Z E (⟨⟨_, rfl⟩, _, hSB, hf0⟩) dX4_sorts_91 (Nat.le_of_ble_eq_true rfl) (Nat.le_of_ble_eq_true rfl)
          ·
            have hlo := lon_in (n := S.2.1 t) (C := S.2.2.1 t) (p := i) (by omega)
            have hsi := srt_in (n := S.2.1 t) (C := S.2.2.1 t) (f := i) (e := i + lon (S.2.1 t) (S.2.2.1 t) i) (by omega) (by omega)
            have hsp := srt_p (n := S.2.1 t) (C := S.2.2.1 t) (f := i) (e := i + lon (S.2.1 t) (S.2.2.1 t) i) (by omega) (by omega)
            have hd3 := dgs_in (srt (S.2.1 t) (S.2.2.1 t) i (i + lon (S.2.1 t) (S.2.2.1 t) i))
            refine x_aload_n Z dX4_sorts_42 rfl rfl ?_
            refine x_iload_n Z dX4_sorts_43 rfl rfl ?_
            refine x_if_ne Z 52 dX4_sorts_44 (by decide) ⟨by omega, by omega⟩ (fun c44 => ?_) (fun c44 => ?_)
            ·
              refine x_ldcS Z hRs dX4_sorts_52 ?_
              refine x_callV (ci := 1) (C := RJ4) (T := TJ4) (N := 4) Z okJ4_append_15ec4 q1266 q806 q807 rfl dX4_sorts_54 (c_J4_append_15ec4 h0 htr hs (by first | exact hqe | exact hqs) (by omega) (by omega)) hs.1 ⟨Nat.le_of_ble_eq_true rfl, Nat.le_of_ble_eq_true rfl, (by show _ + 2 ≤ 126; omega), (by show _ + 268 ≤ 16496; omega)⟩ rfl rfl (Nat.le_of_ble_eq_true rfl) (fun v9 w9 hR => ?_)
              obtain ⟨rfl, hW⟩ := hR
              obtain ⟨v5, ml5, m5, C5, hs5, hna5, hnv5, hf5⟩ := sbI.step hs hna hnv hfz hW
              have hS := hSB.frm hf5 (fun _ _ h => h)
              obtain ⟨hr1, hr2, ⟨f3, hr3, hf3⟩, hr4, hr5, hr6⟩ := id hS
              obtain ⟨hrt, hn0, hn30, hC⟩ := hr5 t (by omega) (by omega)
              try dsimp only [rT] at hr1 hf3 hr4 hr5 hr6
              try dsimp only [rT] at hrt hn0 hn30 hC
              have hCi := hC i
              have hki := kin_in (S.2.2.1 t i)
              have hd1 := dgs_in (kin (S.2.2.1 t i))
              have hd2 := dgs_in (S.2.2.1 t i)
              simp only [Option.toList_some, Option.toList_none, List.cons_append, List.nil_append]
              have hlo := lon_in (n := S.2.1 t) (C := S.2.2.1 t) (p := i) (by omega)
              have hsi := srt_in (n := S.2.1 t) (C := S.2.2.1 t) (f := i) (e := i + lon (S.2.1 t) (S.2.2.1 t) i) (by omega) (by omega)
              have hsp := srt_p (n := S.2.1 t) (C := S.2.2.1 t) (f := i) (e := i + lon (S.2.1 t) (S.2.2.1 t) i) (by omega) (by omega)
              have hd3 := dgs_in (srt (S.2.1 t) (S.2.2.1 t) i (i + lon (S.2.1 t) (S.2.2.1 t) i))
              refine x_aload_n Z dX4_sorts_57 rfl rfl ?_
              refine x_iload_n Z dX4_sorts_58 rfl rfl ?_
              refine x_iload_n Z dX4_sorts_59 rfl rfl ?_
              refine x_iload_n Z dX4_sorts_60 rfl rfl ?_
              refine x_aload_n Z dX4_sorts_61 rfl rfl ?_
              refine x_iload_n Z dX4_sorts_62 rfl rfl ?_
              refine x_iload_n Z dX4_sorts_63 rfl rfl ?_
              refine x_callV (ci := 5) (C := RX4) (T := TX4) (N := 7) Z okX4_longestOf q1175 q1177 q20 rfl dX4_sorts_64 (c_X4_longestOf h0 htr hS (by omega) (by omega) (by omega) (by omega)) hS.1 ⟨Nat.le_of_ble_eq_true rfl, Nat.le_of_ble_eq_true rfl, (by show _ + 0 ≤ 126; omega), (by show _ + 0 ≤ 16496; omega)⟩ rfl rfl (Nat.le_of_ble_eq_true rfl) (fun v9 w9 hR => ?_)
              obtain ⟨rfl, e9⟩ := hR
              refine x_ew e9 ?_
              simp only [Option.toList_some, Option.toList_none, List.cons_append, List.nil_append]
              try dsimp only [rT]
              refine x_iadd Z dX4_sorts_67 ?_
              refine x_callV (ci := 5) (C := RX4) (T := TX4) (N := 7) Z okX4_sortOf q1179 q1181 q21 rfl dX4_sorts_68 (c_X4_sortOf h0 htr hS (by omega) (by omega) (by omega) (by omega) (by omega)) hS.1 ⟨Nat.le_of_ble_eq_true rfl, Nat.le_of_ble_eq_true rfl, (by show _ + 0 ≤ 126; omega), (by show _ + 0 ≤ 16496; omega)⟩ rfl rfl (Nat.le_of_ble_eq_true rfl) (fun v9 w9 hR => ?_)
              obtain ⟨rfl, e9⟩ := hR
              refine x_ew e9 ?_
              simp only [Option.toList_some, Option.toList_none, List.cons_append, List.nil_append]
              try dsimp only [rT]
              refine x_callV (ci := 1) (C := RJ4) (T := TJ4) (N := 4) Z okJ4_append_bf812 q1267 q738 q739 rfl dX4_sorts_71 (c_J4_append_bf812 h0 htr hs5 (by omega) (by omega) (by omega)) hs5.1 ⟨Nat.le_of_ble_eq_true rfl, Nat.le_of_ble_eq_true rfl, (by show _ + 2 ≤ 126; omega), (by show _ + 268 ≤ 16496; omega)⟩ rfl rfl (Nat.le_of_ble_eq_true rfl) (fun v9 w9 hR => ?_)
              obtain ⟨rfl, hW2⟩ := hR
              have hI2 := sbI.step hs5 hna5 hnv5 hf5 hW2
              simp only [Option.toList_some, Option.toList_none, List.cons_append, List.nil_append]
              obtain ⟨v6, ml6, m6, C6, hs6, hna6, hnv6, hf6b⟩ := id hI2
              have hS := hSB.frm hf6b (fun _ _ h => h)
              obtain ⟨hr1, hr2, ⟨f3, hr3, hf3⟩, hr4, hr5, hr6⟩ := id hS
              obtain ⟨hrt, hn0, hn30, hC⟩ := hr5 t (by omega) (by omega)
              try dsimp only [rT] at hr1 hf3 hr4 hr5 hr6
              try dsimp only [rT] at hrt hn0 hn30 hC
              have hCi := hC i
              have hki := kin_in (S.2.2.1 t i)
              have hd1 := dgs_in (kin (S.2.2.1 t i))
              have hd2 := dgs_in (S.2.2.1 t i)
              refine x_pop Z dX4_sorts_74 rfl ?_
              refine x_iload_n Z dX4_sorts_75 rfl rfl ?_
              refine x_aload_n Z dX4_sorts_76 rfl rfl ?_
              refine x_iload_n Z dX4_sorts_77 rfl rfl ?_
              refine x_iload_n Z dX4_sorts_78 rfl rfl ?_
              refine x_callV (ci := 5) (C := RX4) (T := TX4) (N := 7) Z okX4_longestOf q1175 q1177 q20 rfl dX4_sorts_79 (c_X4_longestOf h0 htr hS (by omega) (by omega) (by omega) (by omega)) hS.1 ⟨Nat.le_of_ble_eq_true rfl, Nat.le_of_ble_eq_true rfl, (by show _ + 0 ≤ 126; omega), (by show _ + 0 ≤ 16496; omega)⟩ rfl rfl (Nat.le_of_ble_eq_true rfl) (fun v9 w9 hR => ?_)
              obtain ⟨rfl, e9⟩ := hR
              refine x_ew e9 ?_
              simp only [Option.toList_some, Option.toList_none, List.cons_append, List.nil_append]
              try dsimp only [rT]
              refine x_iadd Z dX4_sorts_82 ?_
              refine x_istore_n (L' := [(3, _), (2, _), (0, _), (1, _)]) Z dX4_sorts_83 rfl (Nat.le_of_ble_eq_true rfl) rfl ?_
              refine x_goto Z 32 dX4_sorts_84 (by decide) ?_
              refine x_wd (k' := 4 + 4 * (i + lon (S.2.1 t) (S.2.2.1 t) i).toNat) (n' := 30 + 540 * (i + lon (S.2.1 t) (S.2.2.1 t) i).toNat) (by omega) (by omega) ?_
              exact ih32 (i + lon (S.2.1 t) (S.2.2.1 t) i) _ _ (by omega) ⟨by omega, by omega, by omega, by omega, hI2⟩
            ·
              refine x_ldcS Z hRe dX4_sorts_47 ?_
              refine x_goto Z 54 dX4_sorts_49 (by decide) ?_
              refine x_callV (ci := 1) (C := RJ4) (T := TJ4) (N := 4) Z okJ4_append_15ec4 q1266 q806 q807 rfl dX4_sorts_54 (c_J4_append_15ec4 h0 htr hs (by first | exact hqe | exact hqs) (by omega) (by omega)) hs.1 ⟨Nat.le_of_ble_eq_true rfl, Nat.le_of_ble_eq_true rfl, (by show _ + 2 ≤ 126; omega), (by show _ + 268 ≤ 16496; omega)⟩ rfl rfl (Nat.le_of_ble_eq_true rfl) (fun v9 w9 hR => ?_)
              obtain ⟨rfl, hW⟩ := hR
              obtain ⟨v5, ml5, m5, C5, hs5, hna5, hnv5, hf5⟩ := sbI.step hs hna hnv hfz hW
              have hS := hSB.frm hf5 (fun _ _ h => h)
              obtain ⟨hr1, hr2, ⟨f3, hr3, hf3⟩, hr4, hr5, hr6⟩ := id hS
              obtain ⟨hrt, hn0, hn30, hC⟩ := hr5 t (by omega) (by omega)
              try dsimp only [rT] at hr1 hf3 hr4 hr5 hr6
              try dsimp only [rT] at hrt hn0 hn30 hC
              have hCi := hC i
              have hki := kin_in (S.2.2.1 t i)
              have hd1 := dgs_in (kin (S.2.2.1 t i))
              have hd2 := dgs_in (S.2.2.1 t i)
              simp only [Option.toList_some, Option.toList_none, List.cons_append, List.nil_append]
              have hlo := lon_in (n := S.2.1 t) (C := S.2.2.1 t) (p := i) (by omega)
              have hsi := srt_in (n := S.2.1 t) (C := S.2.2.1 t) (f := i) (e := i + lon (S.2.1 t) (S.2.2.1 t) i) (by omega) (by omega)
              have hsp := srt_p (n := S.2.1 t) (C := S.2.2.1 t) (f := i) (e := i + lon (S.2.1 t) (S.2.2.1 t) i) (by omega) (by omega)
              have hd3 := dgs_in (srt (S.2.1 t) (S.2.2.1 t) i (i + lon (S.2.1 t) (S.2.2.1 t) i))
              refine x_aload_n Z dX4_sorts_57 rfl rfl ?_
              refine x_iload_n Z dX4_sorts_58 rfl rfl ?_
              refine x_iload_n Z dX4_sorts_59 rfl rfl ?_
              refine x_iload_n Z dX4_sorts_60 rfl rfl ?_
              refine x_aload_n Z dX4_sorts_61 rfl rfl ?_
              refine x_iload_n Z dX4_sorts_62 rfl rfl ?_
              refine x_iload_n Z dX4_sorts_63 rfl rfl ?_
              refine x_callV (ci := 5) (C := RX4) (T := TX4) (N := 7) Z okX4_longestOf q1175 q1177 q20 rfl dX4_sorts_64 (c_X4_longestOf h0 htr hS (by omega) (by omega) (by omega) (by omega)) hS.1 ⟨Nat.le_of_ble_eq_true rfl, Nat.le_of_ble_eq_true rfl, (by show _ + 0 ≤ 126; omega), (by show _ + 0 ≤ 16496; omega)⟩ rfl rfl (Nat.le_of_ble_eq_true rfl) (fun v9 w9 hR => ?_)
              obtain ⟨rfl, e9⟩ := hR
              refine x_ew e9 ?_
              simp only [Option.toList_some, Option.toList_none, List.cons_append, List.nil_append]
              try dsimp only [rT]
              refine x_iadd Z dX4_sorts_67 ?_
              refine x_callV (ci := 5) (C := RX4) (T := TX4) (N := 7) Z okX4_sortOf q1179 q1181 q21 rfl dX4_sorts_68 (c_X4_sortOf h0 htr hS (by omega) (by omega) (by omega) (by omega) (by omega)) hS.1 ⟨Nat.le_of_ble_eq_true rfl, Nat.le_of_ble_eq_true rfl, (by show _ + 0 ≤ 126; omega), (by show _ + 0 ≤ 16496; omega)⟩ rfl rfl (Nat.le_of_ble_eq_true rfl) (fun v9 w9 hR => ?_)
              obtain ⟨rfl, e9⟩ := hR
              refine x_ew e9 ?_
              simp only [Option.toList_some, Option.toList_none, List.cons_append, List.nil_append]
              try dsimp only [rT]
              refine x_callV (ci := 1) (C := RJ4) (T := TJ4) (N := 4) Z okJ4_append_bf812 q1267 q738 q739 rfl dX4_sorts_71 (c_J4_append_bf812 h0 htr hs5 (by omega) (by omega) (by omega)) hs5.1 ⟨Nat.le_of_ble_eq_true rfl, Nat.le_of_ble_eq_true rfl, (by show _ + 2 ≤ 126; omega), (by show _ + 268 ≤ 16496; omega)⟩ rfl rfl (Nat.le_of_ble_eq_true rfl) (fun v9 w9 hR => ?_)
              obtain ⟨rfl, hW2⟩ := hR
              have hI2 := sbI.step hs5 hna5 hnv5 hf5 hW2
              simp only [Option.toList_some, Option.toList_none, List.cons_append, List.nil_append]
              obtain ⟨v6, ml6, m6, C6, hs6, hna6, hnv6, hf6b⟩ := id hI2
              have hS := hSB.frm hf6b (fun _ _ h => h)
              obtain ⟨hr1, hr2, ⟨f3, hr3, hf3⟩, hr4, hr5, hr6⟩ := id hS
              obtain ⟨hrt, hn0, hn30, hC⟩ := hr5 t (by omega) (by omega)
              try dsimp only [rT] at hr1 hf3 hr4 hr5 hr6
              try dsimp only [rT] at hrt hn0 hn30 hC
              have hCi := hC i
              have hki := kin_in (S.2.2.1 t i)
              have hd1 := dgs_in (kin (S.2.2.1 t i))
              have hd2 := dgs_in (S.2.2.1 t i)
              refine x_pop Z dX4_sorts_74 rfl ?_
              refine x_iload_n Z dX4_sorts_75 rfl rfl ?_
              refine x_aload_n Z dX4_sorts_76 rfl rfl ?_
              refine x_iload_n Z dX4_sorts_77 rfl rfl ?_
              refine x_iload_n Z dX4_sorts_78 rfl rfl ?_
              refine x_callV (ci := 5) (C := RX4) (T := TX4) (N := 7) Z okX4_longestOf q1175 q1177 q20 rfl dX4_sorts_79 (c_X4_longestOf h0 htr hS (by omega) (by omega) (by omega) (by omega)) hS.1 ⟨Nat.le_of_ble_eq_true rfl, Nat.le_of_ble_eq_true rfl, (by show _ + 0 ≤ 126; omega), (by show _ + 0 ≤ 16496; omega)⟩ rfl rfl (Nat.le_of_ble_eq_true rfl) (fun v9 w9 hR => ?_)
              obtain ⟨rfl, e9⟩ := hR
              refine x_ew e9 ?_
              simp only [Option.toList_some, Option.toList_none, List.cons_append, List.nil_append]
              try dsimp only [rT]
              refine x_iadd Z dX4_sorts_82 ?_
              refine x_istore_n (L' := [(3, _), (2, _), (0, _), (1, _)]) Z dX4_sorts_83 rfl (Nat.le_of_ble_eq_true rfl) rfl ?_
              refine x_goto Z 32 dX4_sorts_84 (by decide) ?_
              refine x_wd (k' := 4 + 4 * (i + lon (S.2.1 t) (S.2.2.1 t) i).toNat) (n' := 30 + 540 * (i + lon (S.2.1 t) (S.2.2.1 t) i).toNat) (by omega) (by omega) ?_
              exact ih32 (i + lon (S.2.1 t) (S.2.2.1 t) i) _ _ (by omega) ⟨by omega, by omega, by omega, by omega, hI2⟩
      refine x_wd (k' := 4 + 4 * (0 : Int).toNat) (n' := 30 + 540 * (0 : Int).toNat) (Nat.le_of_ble_eq_true rfl) (Nat.le_of_ble_eq_true rfl) ?_
      exact loop32 40 0 0 _ (by omega) ⟨by omega, by omega, by omega, by omega, hI0⟩
    ·
      have hbad := c16
      refine x_ldcS Z hRe dX4_sorts_19 ?_
      exact x_aret Z E (⟨⟨_, rfl⟩, _, hS, hf0⟩) dX4_sorts_21 (Nat.le_of_ble_eq_true rfl) (Nat.le_of_ble_eq_true rfl)
  refine x_aload_n Z dX4_sorts_0 rfl rfl ?_
  refine x_iload_n Z dX4_sorts_1 rfl rfl ?_
  refine x_callS Z okX4_is q1071 q1072 dX4_sorts_2 (c_X4_is h0 htr (by assumption)) ⟨Nat.le_of_ble_eq_true rfl, Nat.le_of_ble_eq_true rfl, Nat.le_of_ble_eq_true rfl, Nat.le_of_ble_eq_true rfl⟩ rfl rfl (Nat.le_of_ble_eq_true rfl) (fun v9 w9 hR => ?_)
  obtain ⟨o9, rfl, e9, hq⟩ := hR
  refine x_ew e9 ?_
  simp only [Option.toList_some, Option.toList_none, List.cons_append, List.nil_append]
  refine x_ifb_ne Z 12 dX4_sorts_5 (by decide) (fun c5 => ?_) (fun c5 => ?_)
  ·
    have f5 := bq_t hq c5
    refine x_ib false Z dX4_sorts_12 (by decide) ?_
    exact join13 _ (by first | exact ⟨fun _ => by omega, fun _ => rfl⟩ | exact ⟨fun h => absurd h (by decide), fun h => (h (by omega)).elim⟩)
  ·
    have f5 := bq_f hq c5
    refine x_ib true Z dX4_sorts_8 (by decide) ?_
    refine x_goto Z 13 dX4_sorts_9 (by decide) ?_
    exact join13 _ (by first | exact ⟨fun _ => by omega, fun _ => rfl⟩ | exact ⟨fun h => absurd h (by decide), fun h => (h (by omega)).elim⟩)
