/-! spec7: walks, by program -/
theorem q62 : Cond.methodLink RX2 1 objectInit ∈ gT := gt_1 27 rfl rfl
theorem q65 : Cond.classLink RX2 9 RX1 ∈ gT := gt_1 30 rfl rfl
theorem q67 : Cond.instantiable RX1 3 ∈ gT := gt_1 32 rfl rfl
theorem q68 : Cond.methodLinkNest RX2 15 yX1_init RX2 ∈ gT := gt_1 33 rfl rfl
theorem q69 : Cond.instanceMethod yX1_init ∈ gT := gt_1 34 rfl rfl
theorem q70 : Cond.code yX1_init cX1_init 1 none ∈ gT := gt_1 35 rfl rfl
theorem okX1_init : gOk yX1_init cX1_init 1 none 0 := ⟨q70, q37, ⟨by decide +kernel, by decide +kernel⟩, by decide +kernel⟩
def kM0 : kM := (fun _ => 0, fun _ _ => 0, 0, 0, 0)
/-- the constructor half way -/
def iS (G : gK) (w w1 : wd) (a A : Nat) (i : Int) (T R Bb : Int → Nat) (f : Int → Option Nat) : Prop :=
  w1 a = some (eO 3 [rv A, iv 0, iv 0, iv 0]) ∧ w1 A = some (eT G 3 f) ∧ w A = none ∧ (∀ j : Int, 0 ≤ j → j < i → f j = some (T j) ∧ w (T j) = none ∧ w (R j) = none ∧ w (Bb j) = none ∧ ∃ B, tX G w1 (T j) (R j) (Bb j) 0 (fun _ => 0) B) ∧ (∀ j k : Int, 0 ≤ j → j < i → 0 ≤ k → k < i → j ≠ k → T j ≠ T k ∧ R j ≠ R k ∧ Bb j ≠ Bb k) ∧ fr (fun x => x = a) w w1
theorem iS.step {G : gK} {w w1 w9 : wd} {a A n r bb : Nat} {i : Int} {T R Bb : Int → Nat} {f : Int → Option Nat} {B9 : Int → Int} (h : iS G w w1 a A i T R Bb f) (i0 : 0 ≤ i) (hn : w1 n = none) (ht : tX G w9 n r bb 0 (fun _ => 0) B9) (hr : w1 r = none) (hb : w1 bb = none) (hf : fr (fun _ => False) w1 w9) : iS G w (ws1 w9 A (eT G 3 (uQ f i (some n)))) a A (i + 1) (fun j => if j = i then n else T j) (fun j => if j = i then r else R j) (fun j => if j = i then bb else Bb j) (uQ f i (some n)) := by
  obtain ⟨g1, g2, g3, g4, g5, g6⟩ := h
  have k1 := hf.at (fun h => h) g1
  have k2 := hf.at (fun h => h) g2
  have aA : a ≠ A := tne 1000003 7 g1 g2 rfl rfl (by decide)
  have hTA : ∀ {x y z : Nat} {B : Int → Int}, tX G w9 x y z 0 (fun _ => 0) B → tX G (ws1 w9 A (eT G 3 (uQ f i (some n)))) x y z 0 (fun _ => 0) B := fun h => ⟨by rw [ws1_n (tne 1000002 7 h.1 k2 rfl rfl (by decide))]; exact h.1, by rw [ws1_n (tne 60 7 h.2.1 k2 rfl rfl (by decide))]; exact h.2.1, by rw [ws1_n (tne 62 7 h.2.2.1 k2 rfl rfl (by decide))]; exact h.2.2.1, h.2.2.2⟩
  have hwn : ∀ q, w1 q = none → w q = none := fun q hq => fr.none g6 hq (fun z => by rw [z, g1] at hq; cases hq)
  have hnn : ∀ {x q : Nat} {e : va_E}, w1 x = some e → w1 q = none → x ≠ q := fun hx hq z => by
    rw [z, hq] at hx; cases hx
  refine ⟨by rw [ws1_n aA]; exact k1, ws1_s, g3, fun j j0 j1 => ?_, fun j k j0 j1 k0 k1 hjk => ?_, ?_⟩
  · by_cases e : j = i
    · subst e
      dsimp only
      rw [if_pos rfl, if_pos rfl, if_pos rfl]
      exact ⟨if_pos rfl, hwn _ hn, hwn _ hr, hwn _ hb, B9, hTA ht⟩
    · dsimp only
      rw [if_neg e, if_neg e, if_neg e]
      obtain ⟨c1, c2, c3, c4, B, c5⟩ := g4 j j0 (by omega)
      exact ⟨(if_neg e).trans c1, c2, c3, c4, B, hTA ⟨hf.at (fun h => h) c5.1, hf.at (fun h => h) c5.2.1, hf.at (fun h => h) c5.2.2.1, c5.2.2.2⟩⟩
  · dsimp only
    by_cases e : j = i
    · rw [if_pos e, if_pos e, if_pos e, if_neg (by omega), if_neg (by omega), if_neg (by omega)]
      obtain ⟨-, -, -, -, B, c5⟩ := g4 k k0 (by omega)
      exact ⟨(hnn c5.1 hn).symm, (hnn c5.2.1 hr).symm, (hnn c5.2.2.1 hb).symm⟩
    · rw [if_neg e, if_neg e, if_neg e]
      obtain ⟨-, -, -, -, B, c5⟩ := g4 j j0 (by omega)
      by_cases e2 : k = i
      · rw [if_pos e2, if_pos e2, if_pos e2]
        exact ⟨hnn c5.1 hn, hnn c5.2.1 hr, hnn c5.2.2.1 hb⟩
      · rw [if_neg e2, if_neg e2, if_neg e2]
        exact g5 j k j0 (by omega) k0 (by omega) hjk
  · have hA : w A = none := g3
    intro q hq hn0
    rw [ws1_n (fun z => hn0 (by rw [z]; exact hA))]
    have e1 := g6 q hq hn0
    exact (hf q (fun h => h) (by rw [e1]; exact hn0)).trans e1
theorem iS.done {G : gK} {w w1 : wd} {a A : Nat} {i : Int} {T R Bb : Int → Nat} {f : Int → Option Nat} (h : iS G w w1 a A i T R Bb f) (hi : 3 ≤ i) : kS G w1 (a, A, T, R, Bb) kM0 ∧ fr (fun x => x = a) w w1 ∧ ∀ q, kP (a, A, T, R, Bb) q → q = a ∨ w q = none := by
  obtain ⟨g1, g2, g3, g4, g5, g6⟩ := h
  refine ⟨⟨g1, ⟨f, g2, fun j j0 j3 => (g4 j j0 (by omega)).1⟩, fun j j0 j3 => (g4 j j0 (by omega)).2.2.2.2, fun j k j0 j3 k0 k3 hjk => g5 j k j0 (by omega) k0 (by omega) hjk⟩, g6, ?_⟩
  rintro q (z | z | ⟨j, j0, j3, z⟩)
  · exact Or.inl z
  · exact Or.inr (by rw [z]; exact g3)
  · obtain ⟨-, c2, c3, c4, -⟩ := g4 j j0 (by omega)
    rcases z with z | z | z
    · exact Or.inr (by rw [z]; exact c2)
    · exact Or.inr (by rw [z]; exact c3)
    · exact Or.inr (by rw [z]; exact c4)
abbrev rmc_X2_init : Room := { frames := 2, cells := 12, slots := 200, locals := 60 }
set_option maxRecDepth 100000 in
theorem c_X2_init {l : Launch} {s0 : State} {G : gK} {w : wd} (h0 : gS0 s0) (htr : l.stackTraces = false) {a : Nat} (ha : w a = some (eO 3 [.null, iv 0, iv 0, iv 0])) : gM l s0 G yX2_init [Cond.code yX2_init cX2_init 2 none] rmc_X2_init [rv a] w (fun v w' => v = none ∧ ∃ K, K.1 = a ∧ kS G w' K kM0 ∧ fr (fun x => x = a) w w' ∧ ∀ q, kP K q → q = a ∨ w q = .none) (noX) := by
  refine g_of h0 htr (by decide +kernel) (Nat.le_of_ble_eq_true rfl) ?_
  intro b Z0 E
  have Z : gAm b l s0 G cX2_init RX2 2 rmc_X2_init := Z0
  refine x_el (L' := [(0, rv a)]) rfl ?_
  refine x_aload_n Z dX2_init_0 rfl rfl ?_
  refine x_objI Z q62 dX2_init_1 (Nat.le_of_ble_eq_true rfl) (Nat.le_of_ble_eq_true rfl) (Nat.le_of_ble_eq_true rfl) ?_
  refine x_aload_n Z dX2_init_4 rfl rfl ?_
  refine x_iconst Z dX2_init_5 ?_
  refine x_newT Z q65 dX2_init_6 (Nat.le_of_ble_eq_true rfl) (Nat.le_of_ble_eq_true rfl) (fun n6 hn6 => ?_)
  refine x_gen fun w4 hw4 => ?_
  have hd6 : a ≠ n6 := fun z => by { rw [z, hn6] at ha; cases ha }
  have ha4 : w4 a = some (eO 3 [.null, iv 0, iv 0, iv 0]) := by { rw [hw4, ws1_n hd6]; exact ha }
  have hA4 : w4 n6 = some (eT G 3 (fun _ => none)) := by { rw [hw4, ws1_s] }
  have hf4 : fr (fun x => x = a) w w4 := by { rw [hw4]; exact fr.rf.new hn6 }
  refine x_putfF (ci := 3) (j := 0) (C := RX2) (T := TX2) (N := 4) (fs' := [_, _, _, _]) Z tyX2 tyX2_ok nmX2 inX2g rfl (by decide) q84 rfl rfl E.2.2.2 rfl rfl rfl rfl dX2_init_9 (by assumption) (by exact Nat.le_of_ble_eq_true rfl) rfl ?_
  have hI0 : iS G w (ws1 w4 a (eO 3 [rv n6, iv 0, iv 0, iv 0])) a n6 0 (fun _ => 0) (fun _ => 0) (fun _ => 0) (fun _ => none) := ⟨ws1_s, (ws1_n hd6.symm).trans hA4, hn6, fun j j0 j1 => absurd j1 (by omega), fun j k j0 j1 => absurd j1 (by omega), hf4.set rfl⟩
  refine x_iconst Z dX2_init_12 ?_
  refine x_istore_n (L' := [(1, _), (0, _)]) Z dX2_init_13 rfl (Nat.le_of_ble_eq_true rfl) rfl ?_
  have loop14 : ∀ (fu : Nat) (i : Int) (T R Bb : Int → Nat) (f : Int → Option Nat) (w1 : wd), 3 - i < (fu : Int) → (0 ≤ i ∧ i ≤ 3 ∧ iS G w w1 a n6 i T R Bb f) → gX b s0 G (1 + 3 * i.toNat) (3 + 64 * i.toNat) 14 [(1, iv i), (0, rv a)] [] (w1) := by
    intro fu; induction fu with
    | zero => intro i T R Bb f w1 hm hv; exact absurd hm (by omega)
    | succ fu ih14 =>
      intro i T R Bb f w1 hm hv
      obtain ⟨hi0, hin, hI⟩ := hv
      obtain ⟨g1, g2, -⟩ := id hI
      refine x_iload_n Z dX2_init_14 rfl rfl ?_
      refine x_iconst Z dX2_init_15 ?_
      refine x_icmp_ge Z 38 dX2_init_16 (by decide) ⟨by omega, by omega⟩ ⟨by omega, by omega⟩ (fun c16 => ?_) (fun c16 => ?_)
      ·
        refine x_wd (k' := 12) (n' := 200) (by omega) (by omega) ?_
        exact x_vret Z E (⟨rfl, (a, n6, T, R, Bb), rfl, (hI.done (by omega)).1, (hI.done (by omega)).2.1, (hI.done (by omega)).2.2⟩) dX2_init_38 (Nat.le_of_ble_eq_true rfl) (Nat.le_of_ble_eq_true rfl)
      ·
        refine x_aload_n Z dX2_init_19 rfl rfl ?_
        refine x_getf (ci := 3) (j := 0) (C := RX2) (T := TX2) (N := 4) Z inX2g rfl (by decide) q84 rfl dX2_init_20 (by assumption) rfl ?_
        refine x_iload_n Z dX2_init_23 rfl rfl ?_
        refine x_new (ci := 2) (C := RX1) (T := TX1) (N := 3) (fs := [.null, iv 0, .null]) Z tyX1 tyX1_ok inX1g rfl q65 q67 q37 (fun j hj => by have h0 := hj; rcases (by omega : j = 0 ∨ j = 1 ∨ j = 2) with rfl | rfl | rfl <;> (try rfl) <;> decide +kernel) (by show _ + 1 ≤ 12; omega) (by show _ + 3 ≤ 200; omega) dX2_init_24 (fun n24 hn24 => ?_)
        refine x_gen fun w2 hw2 => ?_
        have hA2 : w2 n24 = some (eO 2 [.null, iv 0, .null]) := by { rw [hw2, ws1_s] }
        have hf2 : fr (fun _ => False) w1 w2 := by { rw [hw2]; exact fr.rf.new hn24 }
        refine x_dup Z dX2_init_27 rfl ?_
        refine x_callIN Z okX1_init q68 q69 rfl dX2_init_28 (c_X1_init h0 htr hA2) ⟨Nat.le_of_ble_eq_true rfl, Nat.le_of_ble_eq_true rfl, (by show _ + 2 ≤ 12; omega), (by show _ + 61 ≤ 200; omega)⟩ rfl rfl (Nat.le_of_ble_eq_true rfl) (fun v9 w9 hR => ?_)
        obtain ⟨rfl, r9, b9, ht9, hr9, hb9, hf9⟩ := hR
        have hf3 := fr.tr2 hf2 hn24 hf9
        have hA9 := hf3.at (fun h => h) g2
        have hI9 := hI.step hi0 hn24 ht9 (fr.none hf2 hr9 (fun h => h)) (fr.none hf2 hb9 (fun h => h)) hf3
        simp only [Option.toList_some, Option.toList_none, List.cons_append, List.nil_append]
        refine x_aastT Z dX2_init_31 hA9 ht9.1 (by decide) (by omega) (by omega) ?_
        refine x_iinc (L' := [(1, _), (0, _)]) Z dX2_init_32 rfl (Nat.le_of_ble_eq_true rfl) rfl ?_
        refine x_goto Z 14 dX2_init_35 (by decide) ?_
        refine x_wd (k' := 1 + 3 * (i + 1).toNat) (n' := 3 + 64 * (i + 1).toNat) (by omega) (by omega) ?_
        exact ih14 (i + 1) _ _ _ _ _ (by omega) ⟨by omega, by omega, hI9⟩
  refine x_wd (k' := 1 + 3 * (0 : Int).toNat) (n' := 3 + 64 * (0 : Int).toNat) (Nat.le_of_ble_eq_true rfl) (Nat.le_of_ble_eq_true rfl) ?_
  exact loop14 5 0 _ _ _ _ _ (by omega) ⟨by omega, by omega, hI0⟩
