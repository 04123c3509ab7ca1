/-! the law, from its entry to its end -/
set_option maxRecDepth 100000 in
theorem law_main {b : gBt} {l : Launch} {s0 : State} {G : gK} (h0 : gS0 s0) (htr : l.stackTraces = false) (Z : gAm b l s0 G cL_law RL 7 room_1) {sa Ls : Nat} {xs : Nat → Int32} (hX : lX b s0 sa Ls xs) (hend : ∀ {k n : Nat} {L : List (Nat × Value)} {w : wd}, k ≤ 755723 → n ≤ 6834312 → gX b s0 G k n 2251 L [iv 1] w) : gX b s0 G 0 0 0 [(0, rv sa)] [] (fun _ => none) := by
  obtain ⟨-, -, -, hLs⟩ := id hX
  refine x_new (ci := 3) (C := RX2) (T := TX2) (N := 4) (fs := [.null, iv 0, iv 0, iv 0]) Z tyX2 tyX2_ok inX2g rfl q57 q58 q36 (fun j hj => by have h0 := hj; rcases (by omega : j = 0 ∨ j = 1 ∨ j = 2 ∨ j = 3) with rfl | rfl | rfl | rfl <;> (try rfl) <;> decide +kernel) (Nat.le_of_ble_eq_true rfl) (Nat.le_of_ble_eq_true rfl) dL_law_0 (fun n0 hn0 => ?_)
  refine x_gen fun w1 hw1 => ?_
  have ha1 : w1 n0 = some (eO 3 [.null, iv 0, iv 0, iv 0]) := by { rw [hw1, ws1_s] }
  refine x_dup Z dL_law_3 rfl ?_
  refine x_callI Z okX2_init q59 q60 rfl dL_law_4 (c_X2_init h0 htr ha1) ⟨Nat.le_of_ble_eq_true rfl, Nat.le_of_ble_eq_true rfl, Nat.le_of_ble_eq_true rfl, Nat.le_of_ble_eq_true rfl⟩ rfl rfl (Nat.le_of_ble_eq_true rfl) (fun v9 w9 hR => ?_)
  obtain ⟨rfl, K, hKa, hK2, hf9, hKn⟩ := hR
  subst hKa
  refine x_gen fun w2 hw2 => ?_
  rw [← hw2] at hK2 hf9
  simp only [Option.toList_some, Option.toList_none, List.cons_append, List.nil_append]
  refine x_astore_n (L' := [(1, _), (0, _)]) Z dL_law_7 rfl (Nat.le_of_ble_eq_true rfl) rfl ?_
  refine x_new (ci := 5) (C := RX4) (T := TX4) (N := 7) (fs := [.null, .null, .null, iv 0, iv 0, iv 0, iv 0]) Z tyX4 tyX4_ok inX4g rfl q1017 q1018 q38 (fun j hj => by have h0 := hj; rcases (by omega : j = 0 ∨ j = 1 ∨ j = 2 ∨ j = 3 ∨ j = 4 ∨ j = 5 ∨ j = 6) with rfl | rfl | rfl | rfl | rfl | rfl | rfl <;> (try rfl) <;> decide +kernel) (Nat.le_of_ble_eq_true rfl) (Nat.le_of_ble_eq_true rfl) dL_law_8 (fun n8 hn8 => ?_)
  refine x_gen fun w3 hw3 => ?_
  have ha3 : w3 n8 = some (eO 5 [.null, .null, .null, iv 0, iv 0, iv 0, iv 0]) := by { rw [hw3, ws1_s] }
  have hf3 : fr (fun _ => False) w2 w3 := by { rw [hw3]; exact fr.rf.new hn8 }
  have hK3 := hK2.fr hf3 (fun _ _ h => h)
  refine x_dup Z dL_law_11 rfl ?_
  refine x_callI Z okX4_init q1019 q1020 rfl dL_law_12 (c_X4_init h0 htr ha3) ⟨Nat.le_of_ble_eq_true rfl, Nat.le_of_ble_eq_true rfl, Nat.le_of_ble_eq_true rfl, Nat.le_of_ble_eq_true rfl⟩ rfl rfl (Nat.le_of_ble_eq_true rfl) (fun v9 w9 hR => ?_)
  obtain ⟨rfl, R, S, hRa, hR4, hSn, hS4, hf9, hRn⟩ := hR
  refine x_gen fun w4 hw4 => ?_
  rw [← hw4] at hR4 hf9
  have hK4 := hK3.fr hf9 (fun q hq e => hK2.some q hq (by rw [e]; exact hn8))
  subst hRa
  simp only [Option.toList_some, Option.toList_none, List.cons_append, List.nil_append]
  refine x_astore_n (L' := [(2, _), (1, _), (0, _)]) Z dL_law_15 rfl (Nat.le_of_ble_eq_true rfl) rfl ?_
  refine x_new (ci := 4) (C := RX3) (T := TX3) (N := 2) (fs := [.long 0, .null]) Z tyX3 tyX3_ok inX3g rfl q291 q292 q39 (fun j hj => by have h0 := hj; rcases (by omega : j = 0 ∨ j = 1) with rfl | rfl <;> (try rfl) <;> decide +kernel) (Nat.le_of_ble_eq_true rfl) (Nat.le_of_ble_eq_true rfl) dL_law_16 (fun n16 hn16 => ?_)
  refine x_gen fun w5 hw5 => ?_
  have ha5 : w5 n16 = some (eO 4 [.long 0, .null]) := by { rw [hw5, ws1_s] }
  have hf5 : fr (fun _ => False) w4 w5 := by { rw [hw5]; exact fr.rf.new hn16 }
  have hI : lI G w5 K R n16 := ⟨kM0, S, 0, .null, hK4.fr hf5 (fun _ _ h => h), hR4.frm hf5 (fun _ _ h => h), ha5, fun z => hK4.some _ z hn16, fun z => hR4.nn _ z hn16, fun q hq z => (hRn q z).elim (fun e => hK2.some q hq (by rw [e]; exact hn8)) (fun e => hK3.some q hq e), ⟨fun t _ _ => ⟨by show (0 : Int) = S.2.1 t; rw [hSn], fun j j0 jn => absurd jn (by show ¬ j < 0; omega)⟩, by show (0 : Int) = S.2.2.2.1; rw [hS4], by show (0 : Int) = S.2.2.2.2.1; rw [hS4], by show (0 : Int) = S.2.2.2.2.2.1; rw [hS4]⟩⟩
  refine x_dup Z dL_law_19 rfl ?_
  refine x_callIN Z okX3_init q293 q294 rfl dL_law_20 (c_X3_init h0 htr ha5) ⟨Nat.le_of_ble_eq_true rfl, Nat.le_of_ble_eq_true rfl, Nat.le_of_ble_eq_true rfl, Nat.le_of_ble_eq_true rfl⟩ rfl rfl (Nat.le_of_ble_eq_true rfl) (fun v9 w9 hR => ?_)
  obtain ⟨rfl, e9⟩ := hR
  refine x_ew e9 ?_
  simp only [Option.toList_some, Option.toList_none, List.cons_append, List.nil_append]
  refine x_astore_n (L' := [(3, _), (2, _), (1, _), (0, _)]) Z dL_law_23 rfl (Nat.le_of_ble_eq_true rfl) rfl ?_
  refine x_iconst Z dL_law_24 ?_
  refine x_istore (L' := [(4, _), (3, _), (2, _), (1, _), (0, _)]) Z dL_law_25 (Nat.le_of_ble_eq_true rfl) rfl ?_
  have loop27 : ∀ (fu : Nat) (i : Int) (w1 : wd), Ls - i < (fu : Int) → (0 ≤ i ∧ i ≤ Ls ∧ lI G w1 K R n16) → gX b s0 G (50 + 100 * i.toNat) (700 + 10000 * i.toNat) 27 [(4, iv i), (0, rv sa), (1, rv K.1), (2, rv R.1), (3, rv n16)] [] (w1) := by
    intro fu; induction fu with
    | zero => intro i w1 hm hv; exact absurd hm (by omega)
    | succ fu ih27 =>
      intro i w1 hm hv
      obtain ⟨hi0, hin, hI⟩ := hv
      refine x_iload Z dL_law_27 rfl ?_
      refine x_aload_n Z dL_law_29 rfl rfl ?_
      refine x_slen Z hX dL_law_30 ?_
      refine x_iconst Z dL_law_31 ?_
      refine x_isub Z dL_law_32 ?_
      refine x_icmp_gt Z 2250 dL_law_33 (by decide) ⟨by omega, by omega⟩ ⟨by omega, by omega⟩ (fun c33 => ?_) (fun c33 => ?_)
      ·
        refine x_iconst Z dL_law_2250 ?_
        exact hend (by omega) (by omega)
      ·
        refine x_aload_n Z dL_law_36 rfl rfl ?_
        refine x_iload Z dL_law_37 rfl ?_
        refine x_sld Z hX (by omega) (by omega) dL_law_39 (fun hz39 => ?_)
        refine x_bipush Z dL_law_40 (by decide +kernel) ?_
        refine x_iand Z dL_law_42 ?_
        have join2244 : ∀ (w2 : wd), lI G w2 K R n16 → gX b s0 G (50 + 100 * i.toNat + 400) (700 + 10000 * i.toNat + 40000) 2244 [(4, iv i), (0, rv sa), (1, rv K.1), (2, rv R.1), (3, rv n16)] [] (w2) := by
          intro w2 hv
          have hI2 := hv
          refine x_iinc (L' := [(4, _), (0, _), (1, _), (2, _), (3, _)]) Z dL_law_2244 rfl (Nat.le_of_ble_eq_true rfl) rfl ?_
          refine x_goto Z 27 dL_law_2247 (by decide) ?_
          refine x_wd (k' := 50 + 100 * (i + 4).toNat) (n' := 700 + 10000 * (i + 4).toNat) (by omega) (by omega) ?_
          exact ih27 (i + 4) _ (by omega) ⟨by omega, by omega, hI2⟩
        have hb9 := bAnd_in (sx xs i) 63
        rcases (by omega : ((bAnd (sx xs i) 63) < 0 ∨ 49 < (bAnd (sx xs i) 63)) ∨ (bAnd (sx xs i) 63) = 0 ∨ (bAnd (sx xs i) 63) = 1 ∨ (bAnd (sx xs i) 63) = 2 ∨ (bAnd (sx xs i) 63) = 3 ∨ (bAnd (sx xs i) 63) = 4 ∨ (bAnd (sx xs i) 63) = 5 ∨ (bAnd (sx xs i) 63) = 6 ∨ (bAnd (sx xs i) 63) = 7 ∨ (bAnd (sx xs i) 63) = 8 ∨ (bAnd (sx xs i) 63) = 9 ∨ (bAnd (sx xs i) 63) = 10 ∨ (bAnd (sx xs i) 63) = 11 ∨ (bAnd (sx xs i) 63) = 12 ∨ (bAnd (sx xs i) 63) = 13 ∨ (bAnd (sx xs i) 63) = 14 ∨ (bAnd (sx xs i) 63) = 15 ∨ (bAnd (sx xs i) 63) = 16 ∨ (bAnd (sx xs i) 63) = 17 ∨ (bAnd (sx xs i) 63) = 18 ∨ (bAnd (sx xs i) 63) = 19 ∨ (bAnd (sx xs i) 63) = 20 ∨ (bAnd (sx xs i) 63) = 21 ∨ (bAnd (sx xs i) 63) = 22 ∨ (bAnd (sx xs i) 63) = 23 ∨ (bAnd (sx xs i) 63) = 24 ∨ (bAnd (sx xs i) 63) = 25 ∨ (bAnd (sx xs i) 63) = 26 ∨ (bAnd (sx xs i) 63) = 27 ∨ (bAnd (sx xs i) 63) = 28 ∨ (bAnd (sx xs i) 63) = 29 ∨ (bAnd (sx xs i) 63) = 30 ∨ (bAnd (sx xs i) 63) = 31 ∨ (bAnd (sx xs i) 63) = 32 ∨ (bAnd (sx xs i) 63) = 33 ∨ (bAnd (sx xs i) 63) = 34 ∨ (bAnd (sx xs i) 63) = 35 ∨ (bAnd (sx xs i) 63) = 36 ∨ (bAnd (sx xs i) 63) = 37 ∨ (bAnd (sx xs i) 63) = 38 ∨ (bAnd (sx xs i) 63) = 39 ∨ (bAnd (sx xs i) 63) = 40 ∨ (bAnd (sx xs i) 63) = 41 ∨ (bAnd (sx xs i) 63) = 42 ∨ (bAnd (sx xs i) 63) = 43 ∨ (bAnd (sx xs i) 63) = 44 ∨ (bAnd (sx xs i) 63) = 45 ∨ (bAnd (sx xs i) 63) = 46 ∨ (bAnd (sx xs i) 63) = 47 ∨ (bAnd (sx xs i) 63) = 48 ∨ (bAnd (sx xs i) 63) = 49) with hs | hs | hs | hs | hs | hs | hs | hs | hs | hs | hs | hs | hs | hs | hs | hs | hs | hs | hs | hs | hs | hs | hs | hs | hs | hs | hs | hs | hs | hs | hs | hs | hs | hs | hs | hs | hs | hs | hs | hs | hs | hs | hs | hs | hs | hs | hs | hs | hs | hs | hs
        ·
          refine x_tabOut Z 2244 dL_law_43 ⟨by omega, by omega⟩ (by omega) (by decide) ?_
          refine x_wd (k' := 50 + 100 * i.toNat + 400) (n' := 700 + 10000 * i.toNat + 40000) (by omega) (by omega) ?_
          exact join2244 _ hI
        ·
          refine x_tabIn Z 256 dL_law_43 ⟨by omega, by omega⟩ (by omega) (by omega) (by rw [hs]; rfl) (by decide) ?_
          exact arm_0 h0 htr Z hX hI hi0 (by omega) (by omega) (by omega) join2244
        ·
          refine x_tabIn Z 296 dL_law_43 ⟨by omega, by omega⟩ (by omega) (by omega) (by rw [hs]; rfl) (by decide) ?_
          exact arm_1 h0 htr Z hX hI hi0 (by omega) (by omega) (by omega) join2244
        ·
          refine x_tabIn Z 348 dL_law_43 ⟨by omega, by omega⟩ (by omega) (by omega) (by rw [hs]; rfl) (by decide) ?_
          exact arm_2 h0 htr Z hX hI hi0 (by omega) (by omega) (by omega) join2244
        ·
          refine x_tabIn Z 400 dL_law_43 ⟨by omega, by omega⟩ (by omega) (by omega) (by rw [hs]; rfl) (by decide) ?_
          exact arm_3 h0 htr Z hX hI hi0 (by omega) (by omega) (by omega) join2244
        ·
          refine x_tabIn Z 440 dL_law_43 ⟨by omega, by omega⟩ (by omega) (by omega) (by rw [hs]; rfl) (by decide) ?_
          exact arm_4 h0 htr Z hX hI hi0 (by omega) (by omega) (by omega) join2244
        ·
          refine x_tabIn Z 468 dL_law_43 ⟨by omega, by omega⟩ (by omega) (by omega) (by rw [hs]; rfl) (by decide) ?_
          exact arm_5 h0 htr Z hX hI hi0 (by omega) (by omega) (by omega) join2244
        ·
          refine x_tabIn Z 508 dL_law_43 ⟨by omega, by omega⟩ (by omega) (by omega) (by rw [hs]; rfl) (by decide) ?_
          exact arm_6 h0 htr Z hX hI hi0 (by omega) (by omega) (by omega) join2244
        ·
          refine x_tabIn Z 548 dL_law_43 ⟨by omega, by omega⟩ (by omega) (by omega) (by rw [hs]; rfl) (by decide) ?_
          exact arm_7 h0 htr Z hX hI hi0 (by omega) (by omega) (by omega) join2244
        ·
          refine x_tabIn Z 576 dL_law_43 ⟨by omega, by omega⟩ (by omega) (by omega) (by rw [hs]; rfl) (by decide) ?_
          exact arm_8 h0 htr Z hX hI hi0 (by omega) (by omega) (by omega) join2244
        ·
          refine x_tabIn Z 628 dL_law_43 ⟨by omega, by omega⟩ (by omega) (by omega) (by rw [hs]; rfl) (by decide) ?_
          exact arm_9 h0 htr Z hX hI hi0 (by omega) (by omega) (by omega) join2244
        ·
          refine x_tabIn Z 680 dL_law_43 ⟨by omega, by omega⟩ (by omega) (by omega) (by rw [hs]; rfl) (by decide) ?_
          exact arm_10 h0 htr Z hX hI hi0 (by omega) (by omega) (by omega) join2244
        ·
          refine x_tabIn Z 748 dL_law_43 ⟨by omega, by omega⟩ (by omega) (by omega) (by rw [hs]; rfl) (by decide) ?_
          exact arm_11 h0 htr Z hX hI hi0 (by omega) (by omega) (by omega) join2244
        ·
          refine x_tabIn Z 816 dL_law_43 ⟨by omega, by omega⟩ (by omega) (by omega) (by rw [hs]; rfl) (by decide) ?_
          exact arm_12 h0 htr Z hX hI hi0 (by omega) (by omega) (by omega) join2244
        ·
          refine x_tabIn Z 868 dL_law_43 ⟨by omega, by omega⟩ (by omega) (by omega) (by rw [hs]; rfl) (by decide) ?_
          exact arm_13 h0 htr Z hX hI hi0 (by omega) (by omega) (by omega) join2244
        ·
          refine x_tabIn Z 896 dL_law_43 ⟨by omega, by omega⟩ (by omega) (by omega) (by rw [hs]; rfl) (by decide) ?_
          exact arm_14 h0 htr Z hX hI hi0 (by omega) (by omega) (by omega) join2244
        ·
          refine x_tabIn Z 924 dL_law_43 ⟨by omega, by omega⟩ (by omega) (by omega) (by rw [hs]; rfl) (by decide) ?_
          exact arm_15 h0 htr Z hX hI hi0 (by omega) (by omega) (by omega) join2244
        ·
          refine x_tabIn Z 964 dL_law_43 ⟨by omega, by omega⟩ (by omega) (by omega) (by rw [hs]; rfl) (by decide) ?_
          exact arm_16 h0 htr Z hX hI hi0 (by omega) (by omega) (by omega) join2244
        ·
          refine x_tabIn Z 992 dL_law_43 ⟨by omega, by omega⟩ (by omega) (by omega) (by rw [hs]; rfl) (by decide) ?_
          exact arm_17 h0 htr Z hX hI hi0 (by omega) (by omega) (by omega) join2244
        ·
          refine x_tabIn Z 1032 dL_law_43 ⟨by omega, by omega⟩ (by omega) (by omega) (by rw [hs]; rfl) (by decide) ?_
          exact arm_18 h0 htr Z hX hI hi0 (by omega) (by omega) (by omega) join2244
        ·
          refine x_tabIn Z 1100 dL_law_43 ⟨by omega, by omega⟩ (by omega) (by omega) (by rw [hs]; rfl) (by decide) ?_
          exact arm_19 h0 htr Z hX hI hi0 (by omega) (by omega) (by omega) join2244
        ·
          refine x_tabIn Z 1140 dL_law_43 ⟨by omega, by omega⟩ (by omega) (by omega) (by rw [hs]; rfl) (by decide) ?_
          exact arm_20 h0 htr Z hX hI hi0 (by omega) (by omega) (by omega) join2244
        ·
          refine x_tabIn Z 1192 dL_law_43 ⟨by omega, by omega⟩ (by omega) (by omega) (by rw [hs]; rfl) (by decide) ?_
          exact arm_21 h0 htr Z hX hI hi0 (by omega) (by omega) (by omega) join2244
        ·
          refine x_tabIn Z 1244 dL_law_43 ⟨by omega, by omega⟩ (by omega) (by omega) (by rw [hs]; rfl) (by decide) ?_
          exact arm_22 h0 htr Z hX hI hi0 (by omega) (by omega) (by omega) join2244
        ·
          refine x_tabIn Z 1284 dL_law_43 ⟨by omega, by omega⟩ (by omega) (by omega) (by rw [hs]; rfl) (by decide) ?_
          exact arm_23 h0 htr Z hX hI hi0 (by omega) (by omega) (by omega) join2244
        ·
          refine x_tabIn Z 1324 dL_law_43 ⟨by omega, by omega⟩ (by omega) (by omega) (by rw [hs]; rfl) (by decide) ?_
          exact arm_24 h0 htr Z hX hI hi0 (by omega) (by omega) (by omega) join2244
        ·
          refine x_tabIn Z 1364 dL_law_43 ⟨by omega, by omega⟩ (by omega) (by omega) (by rw [hs]; rfl) (by decide) ?_
          exact arm_25 h0 htr Z hX hI hi0 (by omega) (by omega) (by omega) join2244
        ·
          refine x_tabIn Z 1445 dL_law_43 ⟨by omega, by omega⟩ (by omega) (by omega) (by rw [hs]; rfl) (by decide) ?_
          exact arm_26 h0 htr Z hX hI hi0 (by omega) (by omega) (by omega) join2244
        ·
          refine x_tabIn Z 1473 dL_law_43 ⟨by omega, by omega⟩ (by omega) (by omega) (by rw [hs]; rfl) (by decide) ?_
          exact arm_27 h0 htr Z hX hI hi0 (by omega) (by omega) (by omega) join2244
        ·
          refine x_tabIn Z 1513 dL_law_43 ⟨by omega, by omega⟩ (by omega) (by omega) (by rw [hs]; rfl) (by decide) ?_
          exact arm_28 h0 htr Z hX hI hi0 (by omega) (by omega) (by omega) join2244
        ·
          refine x_tabIn Z 1541 dL_law_43 ⟨by omega, by omega⟩ (by omega) (by omega) (by rw [hs]; rfl) (by decide) ?_
          exact arm_29 h0 htr Z hX hI hi0 (by omega) (by omega) (by omega) join2244
        ·
          refine x_tabIn Z 1569 dL_law_43 ⟨by omega, by omega⟩ (by omega) (by omega) (by rw [hs]; rfl) (by decide) ?_
          exact arm_30 h0 htr Z hX hI hi0 (by omega) (by omega) (by omega) join2244
        ·
          refine x_tabIn Z 1609 dL_law_43 ⟨by omega, by omega⟩ (by omega) (by omega) (by rw [hs]; rfl) (by decide) ?_
          exact arm_31 h0 htr Z hX hI hi0 (by omega) (by omega) (by omega) join2244
        ·
          refine x_tabIn Z 1649 dL_law_43 ⟨by omega, by omega⟩ (by omega) (by omega) (by rw [hs]; rfl) (by decide) ?_
          exact arm_32 h0 htr Z hX hI hi0 (by omega) (by omega) (by omega) join2244
        ·
          refine x_tabIn Z 1689 dL_law_43 ⟨by omega, by omega⟩ (by omega) (by omega) (by rw [hs]; rfl) (by decide) ?_
          exact arm_33 h0 htr Z hX hI hi0 (by omega) (by omega) (by omega) join2244
        ·
          refine x_tabIn Z 1757 dL_law_43 ⟨by omega, by omega⟩ (by omega) (by omega) (by rw [hs]; rfl) (by decide) ?_
          exact arm_34 h0 htr Z hX hI hi0 (by omega) (by omega) (by omega) join2244
        ·
          refine x_tabIn Z 1797 dL_law_43 ⟨by omega, by omega⟩ (by omega) (by omega) (by rw [hs]; rfl) (by decide) ?_
          exact arm_35 h0 htr Z hX hI hi0 (by omega) (by omega) (by omega) join2244
        ·
          refine x_tabIn Z 1825 dL_law_43 ⟨by omega, by omega⟩ (by omega) (by omega) (by rw [hs]; rfl) (by decide) ?_
          exact arm_36 h0 htr Z hX hI hi0 (by omega) (by omega) (by omega) join2244
        ·
          refine x_tabIn Z 1853 dL_law_43 ⟨by omega, by omega⟩ (by omega) (by omega) (by rw [hs]; rfl) (by decide) ?_
          exact arm_37 h0 htr Z hX hI hi0 (by omega) (by omega) (by omega) join2244
        ·
          refine x_tabIn Z 1905 dL_law_43 ⟨by omega, by omega⟩ (by omega) (by omega) (by rw [hs]; rfl) (by decide) ?_
          exact arm_38 h0 htr Z hX hI hi0 (by omega) (by omega) (by omega) join2244
        ·
          refine x_tabIn Z 1945 dL_law_43 ⟨by omega, by omega⟩ (by omega) (by omega) (by rw [hs]; rfl) (by decide) ?_
          exact arm_39 h0 htr Z hX hI hi0 (by omega) (by omega) (by omega) join2244
        ·
          refine x_tabIn Z 1973 dL_law_43 ⟨by omega, by omega⟩ (by omega) (by omega) (by rw [hs]; rfl) (by decide) ?_
          exact arm_40 h0 htr Z hX hI hi0 (by omega) (by omega) (by omega) join2244
        ·
          refine x_tabIn Z 2025 dL_law_43 ⟨by omega, by omega⟩ (by omega) (by omega) (by rw [hs]; rfl) (by decide) ?_
          exact arm_41 h0 htr Z hX hI hi0 (by omega) (by omega) (by omega) join2244
        ·
          refine x_tabIn Z 2053 dL_law_43 ⟨by omega, by omega⟩ (by omega) (by omega) (by rw [hs]; rfl) (by decide) ?_
          exact arm_42 h0 htr Z hX hI hi0 (by omega) (by omega) (by omega) join2244
        ·
          refine x_tabIn Z 2081 dL_law_43 ⟨by omega, by omega⟩ (by omega) (by omega) (by rw [hs]; rfl) (by decide) ?_
          exact arm_43 h0 htr Z hX hI hi0 (by omega) (by omega) (by omega) join2244
        ·
          refine x_tabIn Z 2109 dL_law_43 ⟨by omega, by omega⟩ (by omega) (by omega) (by rw [hs]; rfl) (by decide) ?_
          exact arm_44 h0 htr Z hX hI hi0 (by omega) (by omega) (by omega) join2244
        ·
          refine x_tabIn Z 2137 dL_law_43 ⟨by omega, by omega⟩ (by omega) (by omega) (by rw [hs]; rfl) (by decide) ?_
          exact arm_45 h0 htr Z hX hI hi0 (by omega) (by omega) (by omega) join2244
        ·
          refine x_tabIn Z 2177 dL_law_43 ⟨by omega, by omega⟩ (by omega) (by omega) (by rw [hs]; rfl) (by decide) ?_
          exact arm_46 h0 htr Z hX hI hi0 (by omega) (by omega) (by omega) join2244
        ·
          refine x_tabIn Z 2205 dL_law_43 ⟨by omega, by omega⟩ (by omega) (by omega) (by rw [hs]; rfl) (by decide) ?_
          exact arm_47 h0 htr Z hX hI hi0 (by omega) (by omega) (by omega) join2244
        ·
          refine x_tabIn Z 2218 dL_law_43 ⟨by omega, by omega⟩ (by omega) (by omega) (by rw [hs]; rfl) (by decide) ?_
          exact arm_48 h0 htr Z hX hI hi0 (by omega) (by omega) (by omega) join2244
        ·
          refine x_tabIn Z 2231 dL_law_43 ⟨by omega, by omega⟩ (by omega) (by omega) (by rw [hs]; rfl) (by decide) ?_
          exact arm_49 h0 htr Z hX hI hi0 (by omega) (by omega) (by omega) join2244
  refine x_sub [0, 4, 3, 2, 1] rfl ?_
  refine x_wd (k' := 50 + 100 * (0 : Int).toNat) (n' := 700 + 10000 * (0 : Int).toNat) (Nat.le_of_ble_eq_true rfl) (Nat.le_of_ble_eq_true rfl) ?_
  exact loop27 300 0 _ (by omega) ⟨by omega, by omega, hI⟩
