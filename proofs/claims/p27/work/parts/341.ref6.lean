/-! ref6: walks, by program -/
theorem q12 : Cond.selects RX4 yX4_no yX4_no ∈ gT := gt_s 12 rfl rfl
theorem q13 : Cond.selects RX4 yX4_done yX4_done ∈ gT := gt_s 13 rfl rfl
theorem q16 : Cond.selects RX4 yX4_become yX4_become ∈ gT := gt_s 16 rfl rfl
theorem q18 : Cond.selects RX4 yX4_sifted yX4_sifted ∈ gT := gt_s 18 rfl rfl
theorem q1081 : Cond.methodLink RX4 86 yX4_insert ∈ gT := gt_5 86 rfl rfl
theorem q1082 : Cond.instanceMethod yX4_insert ∈ gT := gt_5 87 rfl rfl
theorem q1083 : Cond.selects RX4 yX4_insert yX4_insert ∈ gT := gt_5 88 rfl rfl
theorem q1084 : Cond.code yX4_insert cX4_insert 5 (some .int) ∈ gT := gt_5 89 rfl rfl
theorem q1085 : Cond.methodLink RX4 96 yX4_no ∈ gT := gt_5 90 rfl rfl
theorem q1087 : Cond.instanceMethod yX4_no ∈ gT := gt_5 92 rfl rfl
theorem q1088 : Cond.code yX4_no cX4_no 1 (some .int) ∈ gT := gt_5 93 rfl rfl
theorem q1089 : Cond.methodLink RX4 92 yX4_done ∈ gT := gt_5 94 rfl rfl
theorem q1091 : Cond.instanceMethod yX4_done ∈ gT := gt_5 96 rfl rfl
theorem q1092 : Cond.code yX4_done cX4_done 2 (some .int) ∈ gT := gt_5 97 rfl rfl
theorem q1118 : Cond.methodLink RX4 103 yX4_become ∈ gT := gt_5 123 rfl rfl
theorem q1120 : Cond.instanceMethod yX4_become ∈ gT := gt_5 125 rfl rfl
theorem q1121 : Cond.code yX4_become cX4_become 6 none ∈ gT := gt_5 126 rfl rfl
theorem q1155 : Cond.methodLink RX4 110 yX4_sifted ∈ gT := gt_5 160 rfl rfl
theorem q1157 : Cond.instanceMethod yX4_sifted ∈ gT := gt_5 162 rfl rfl
theorem q1158 : Cond.code yX4_sifted cX4_sifted 5 (some .int) ∈ gT := gt_5 163 rfl rfl
theorem q1159 : Cond.arrayClass .boolean ∈ gT := gt_5 164 rfl rfl
theorem okX4_done : gOk yX4_done cX4_done 2 (some .int) 1 := ⟨q1092, q38, ⟨by decide +kernel, by decide +kernel⟩, by decide +kernel⟩
theorem okX4_no : gOk yX4_no cX4_no 1 (some .int) 0 := ⟨q1088, q38, ⟨by decide +kernel, by decide +kernel⟩, by decide +kernel⟩
theorem okX4_insert : gOk yX4_insert cX4_insert 5 (some .int) 3 := ⟨q1084, q38, ⟨by decide +kernel, by decide +kernel⟩, by decide +kernel⟩
theorem okX4_become : gOk yX4_become cX4_become 6 none 3 := ⟨q1121, q38, ⟨by decide +kernel, by decide +kernel⟩, by decide +kernel⟩
theorem okX4_sifted : gOk yX4_sifted cX4_sifted 5 (some .int) 2 := ⟨q1158, q38, ⟨by decide +kernel, by decide +kernel⟩, by decide +kernel⟩
section GGN
variable {b : gBt} {s0 : State} {G : gK} {k n pc : Nat} {L : List (Nat × Value)} {st : List Value} {w : wd}
theorem x_gen (kk : ∀ w0 : wd, w0 = w → gX b s0 G k n pc L st w0) : gX b s0 G k n pc L st w := kk w rfl
end GGN
/-- the reference's own state is that one, new cells stand where none stood, nothing else is other -/
def rV (G : gK) (w : wd) (R : rA) (S : rM) (w' : wd) (S' : rM) : Prop := rS G w' R S' ∧ S'.2.2.2.2.2.1 = S.2.2.2.2.2.1 ∧ fr (rP R S.1) w w' ∧ ∀ q, rP R S'.1 q → rP R S.1 q ∨ w q = none
theorem rV.w {G : gK} {w w' : wd} {R : rA} {S S' : rM} (h : rV G w R S w' S') : rW G w R S w' := ⟨S', h⟩
theorem rV.tr {G : gK} {w w1 w2 : wd} {R : rA} {S S1 S2 : rM} (h1 : rV G w R S w1 S1) (h2 : rV G w1 R S1 w2 S2) : rV G w R S w2 S2 := by
  obtain ⟨-, a2, a3, a4⟩ := h1
  obtain ⟨b1, b2, b3, b4⟩ := h2
  refine ⟨b1, b2.trans a2, fun q hq hn => ?_, fun x hx => ?_⟩
  · have e := a3 q hq hn
    rw [b3 q (fun z => (a4 q z).elim hq hn) (by rw [e]; exact hn), e]
  · rcases b4 x hx with h | h
    · exact a4 x h
    · by_cases q : rP R S.1 x
      · exact Or.inl q
      · right
        cases e : w x with
        | none => rfl
        | some y =>
          have := a3.at q e
          rw [h] at this
          cases this
theorem rP_new {w : wd} {R : rA} {ro : Int → Nat} {t : Int} {q x : Nat} (hn : w q = none) (h : rP R (fun i => if i = t then q else ro i) x) : rP R ro x ∨ w x = none := by
  rcases h with h | h | h | h | ⟨i, i0, i3, h⟩
  · exact Or.inl (Or.inl h)
  · exact Or.inl (Or.inr (Or.inl h))
  · exact Or.inl (Or.inr (Or.inr (Or.inl h)))
  · exact Or.inl (Or.inr (Or.inr (Or.inr (Or.inl h))))
  · have h : x = if i = t then q else ro i := h
    by_cases c : i = t
    · rw [if_pos c] at h
      right
      rw [h]
      exact hn
    · rw [if_neg c] at h
      exact Or.inl (Or.inr (Or.inr (Or.inr (Or.inr ⟨i, i0, i3, h⟩))))
theorem eZ_u {G : gK} {n : Nat} {B : Int → Bool} {i : Int} {q : Bool} : eZ G n (uF (fun j => b2 (B j)) i (b2 q)) = eZ G n (fun j => b2 (if j = i then q else B j)) := congrArg (eZ G n) (funext fun j => by
  show (if j = i then b2 q else b2 (B j)) = b2 (if j = i then q else B j)
  by_cases c : j = i
  · rw [if_pos c, if_pos c]
  · rw [if_neg c, if_neg c])
theorem fr.trE {R : rA} {ro ro2 : Int → Nat} {w w1 w2 : wd} (h1 : fr (rP R ro) w w1) (e : ro2 = ro) (h2 : fr (rP R ro2) w1 w2) : fr (rP R ro) w w2 := by
  subst e
  exact h1.tr h2
theorem rP_e {R : rA} {S S1 : rM} {t : Int} (e : S1.1 = S.1) (h0 : 0 ≤ t) (h3 : t < 3) : rP R S.1 (S1.1 t) := by
  rw [e]
  exact Or.inr (Or.inr (Or.inr (Or.inr ⟨t, h0, h3, rfl⟩)))
theorem rS.rowf {G : gK} {w w1 : wd} {R : rA} {S S1 : rM} {t p x : Int} (h : rS G w1 R S1) (hf : fr (rP R S.1) w w1) (e : S1.1 = S.1) (t0 : 0 ≤ t) (t3 : t < 3) (x0 : 0 ≤ x) (x9 : x ≤ 255) : rS G (ws1 w1 (S1.1 t) (eI G 30 (uF (S1.2.2.1 t) p x))) R (S1.1, S1.2.1, fun i => if i = t then uF (S1.2.2.1 t) p x else S1.2.2.1 i, S1.2.2.2) ∧ fr (rP R S.1) w (ws1 w1 (S1.1 t) (eI G 30 (uF (S1.2.2.1 t) p x))) := ⟨h.row t0 t3 x0 x9, hf.set (rP_e e t0 t3)⟩
theorem rS.sizf {G : gK} {w w1 : wd} {R : rA} {S S1 : rM} {t x : Int} (h : rS G w1 R S1) (hf : fr (rP R S.1) w w1) (x0 : 0 ≤ x) (x9 : x ≤ 30) : rS G (ws1 w1 R.2.2.2 (eI G 3 (uF S1.2.1 t x))) R (S1.1, uF S1.2.1 t x, S1.2.2) ∧ fr (rP R S.1) w (ws1 w1 R.2.2.2 (eI G 3 (uF S1.2.1 t x))) := ⟨h.siz x0 x9, hf.set (Or.inr (Or.inr (Or.inr (Or.inl rfl))))⟩
theorem rV.of {G : gK} {w w' : wd} {R : rA} {S S' : rM} (h : rS G w' R S') (hk : S'.2.2.2.2.2.1 = S.2.2.2.2.2.1) (hf : fr (rP R S.1) w w') (e : S'.1 = S.1) : rV G w R S w' S' := ⟨h, hk, hf, fun _ hq => Or.inl (by rw [← e]; exact hq)⟩
/-- an act: it threw and nothing is other, or it came to x -/
def rAct (G : gK) (w : wd) (R : rA) (S : rM) (P1 P2 : Prop) (x : oT) (w' : wd) (z : Int) : Prop := ∃ (S' : rM) (T : Int), rV G w R S w' S' ∧ S'.2.2.2.2.2.2 = T ∧ ((T = 1 ∧ ¬ P1 ∧ S' = rT S T) ∨ (T = 2 ∧ P1 ∧ ¬ P2 ∧ S' = rT S T) ∨ (T = 0 ∧ P1 ∧ P2 ∧ rDo S x z S'))
section RAC
variable {G : gK} {w w1 w' : wd} {R : rA} {S S1 S' : rM} {P1 P2 Q1 Q2 : Prop} {x : oT} {z t n' : Int} {D : Int → Int}
theorem rAct.bad1 {c1 : Bool} (hS : rS G w' R (rT S (th2 c1 false))) (hf : fr (rP R S.1) w w') (h : c1 = true) (h1 : c1 = true ↔ ¬ P1) : rAct G w R S P1 P2 x w' z := by
  subst h
  exact ⟨_, 1, ⟨hS, rfl, hf, fun _ hq => Or.inl hq⟩, rfl, Or.inl ⟨rfl, h1.mp rfl, rfl⟩⟩
theorem rAct.bad2 {c1 c2 : Bool} (hS : rS G w' R (rT S (th2 c1 c2))) (hf : fr (rP R S.1) w w') (h : (c1 || c2) = true) (h1 : c1 = true ↔ ¬ P1) (h2 : c2 = true ↔ ¬ P2) : rAct G w R S P1 P2 x w' z := by
  cases c1 with
  | true => exact ⟨_, 1, ⟨hS, rfl, hf, fun _ hq => Or.inl hq⟩, rfl, Or.inl ⟨rfl, h1.mp rfl, rfl⟩⟩
  | false =>
    cases c2 with
    | true => exact ⟨_, 2, ⟨hS, rfl, hf, fun _ hq => Or.inl hq⟩, rfl, Or.inr (Or.inl ⟨rfl, bq_n h1 rfl, h2.mp rfl, rfl⟩)⟩
    | false => cases h
theorem rAct.ok (hV : rV G w R S w' S') (hT : S'.2.2.2.2.2.2 = 0) (o1 : P1) (o2 : P2) (hd : rDo S x z S') : rAct G w R S P1 P2 x w' z := ⟨S', 0, hV, hT, Or.inr (Or.inr ⟨rfl, o1, o2, hd⟩)⟩
theorem rAct.fin (hK : rK (rT S (th2 false false)) S1 t) (hS : rS G w' R (S1.1, S1.2.1, S1.2.2.1, S1.2.2.2.1 + 1, S1.2.2.2.2.1, S1.2.2.2.2.2.1, S1.2.2.2.2.2.2)) (hf : fr (rP R S.1) w w') (e1 : S1.1 = S.1) (o1 : P1) (o2 : P2) (e : x = (z, t, n', D, 1, 0)) (hn : S1.2.1 t = n') (hD : tEq n' (S1.2.2.1 t) D) : rAct G w R S P1 P2 x w' z :=
  rAct.ok (rV.of hS hK.2.2.2.1 hf e1) hK.2.2.2.2 o1 o2 (rDo.mk (S := rT S (th2 false false)) e hK hn hD)
theorem rAct.finV (hK : rK (rT S (th2 false false)) S1 t) (hV : rV G w R S w1 S1) (hS : rS G w' R (S1.1, S1.2.1, S1.2.2.1, S1.2.2.2.1 + 1, S1.2.2.2.2.1, S1.2.2.2.2.2.1, S1.2.2.2.2.2.2)) (hf : fr (rP R S1.1) w1 w') (o1 : P1) (o2 : P2) (e : x = (z, t, n', D, 1, 0)) (hn : S1.2.1 t = n') (hD : tEq n' (S1.2.2.1 t) D) : rAct G w R S P1 P2 x w' z :=
  rAct.ok (rV.tr hV ⟨hS, rfl, hf, fun _ hx => Or.inl hx⟩) hK.2.2.2.2 o1 o2 (rDo.mk (S := rT S (th2 false false)) e hK hn hD)
theorem rAct.no (hS : rS G w' R ((rT S (th2 false false)).1, (rT S (th2 false false)).2.1, (rT S (th2 false false)).2.2.1, (rT S (th2 false false)).2.2.2.1, (rT S (th2 false false)).2.2.2.2.1 + 1, (rT S (th2 false false)).2.2.2.2.2.1, (rT S (th2 false false)).2.2.2.2.2.2)) (hf : fr (rP R S.1) w w') (o1 : P1) (o2 : P2) (e : x = (-9, t, S.2.1 t, S.2.2.1 t, 0, 1)) : rAct G w R S P1 P2 x w' (-9) :=
  rAct.ok (rV.of hS rfl hf rfl) rfl o1 o2 (rDo.no e)
theorem rAct.via {T0 : Int} (hV : rV G w R S w1 (rT S T0)) (h : rAct G w1 R (rT S T0) Q1 Q2 x w' z) (q1 : Q1) (q2 : Q2) (o1 : P1) (o2 : P2) : rAct G w R S P1 P2 x w' z := by
  obtain ⟨S2, T, h1, h2, ⟨_, h3, _⟩ | ⟨_, _, h3, _⟩ | ⟨e, _, _, h3⟩⟩ := h
  · exact absurd q1 h3
  · exact absurd q2 h3
  · exact rAct.ok (rV.tr hV h1) (h2.trans e) o1 o2 h3
end RAC
theorem trx_s {i n : Int} {C : Int → Int} (e : C i = C (n - 1 - i)) : trx (i + 1) n C ↔ trx i n C := ⟨fun ⟨j, j0, j1, hj⟩ => by
  rcases (by omega : j < i ∨ j = i) with q | q
  · exact ⟨j, j0, q, hj⟩
  · rw [q] at hj
    exact absurd e hj, fun ⟨j, j0, j1, hj⟩ => ⟨j, j0, by omega, hj⟩⟩
theorem bo_eq {a b : Bool} (h : a = b) : true = (a == b) := by
  subst h
  cases a <;> rfl
theorem bo_ne {a b : Bool} (h : a ≠ b) : false = (a == b) := by
  cases a <;> cases b <;> first | rfl | exact absurd rfl h
abbrev rmc_X4_put : Room := { frames := 2, cells := 0, slots := 0, locals := 42 }
set_option maxRecDepth 100000 in
theorem c_X4_put {l : Launch} {s0 : State} {G : gK} {w : wd} (h0 : gS0 s0) (htr : l.stackTraces = false) {R : rA} {S : rM} {t : Int} {p : Int} {s : Int} (hS : rS G w R S) (hit : inr t) (hip : inr p) (his : inr s) : gM l s0 G yX4_put [Cond.code yX4_put cX4_put 5 (some .int)] rmc_X4_put [rv R.1, iv t, iv p, iv s] w (fun v w' => ∃ z : Int, v = some (iv z) ∧ rAct G w R S ((0 ≤ t ∧ t < 3) ∧ 0 ≤ p ∧ p < S.2.1 t) (0 ≤ s ∧ s < 256) (acPut S.2.1 S.2.2.1 t p s) w' z) (noX) := by
  refine g_of h0 htr (by decide +kernel) (Nat.le_of_ble_eq_true rfl) ?_
  intro b Z0 E
  have Z : gAm b l s0 G cX4_put RX4 5 rmc_X4_put := Z0
  refine x_el (L' := [(0, rv R.1), (1, iv t), (2, iv p), (3, iv s)]) rfl ?_
  obtain ⟨hr1, hr2, ⟨f3, hr3, hf3⟩, hr4, hr5, hr6⟩ := id hS
  have hf0 : fr (rP R S.1) w w := fr.rf
  have join27 : ∀ (c1 c2 : Bool), ((c1 = true ↔ ¬ ((0 ≤ t ∧ t < 3) ∧ 0 ≤ p ∧ p < S.2.1 t)) ∧ (c2 = true ↔ ¬ (0 ≤ s ∧ s < 256))) → gX b s0 G (0) (0) 27 [(0, rv R.1), (1, iv t), (2, iv p), (3, iv s)] [iv (b2 c2), iv (b2 c1), rv R.1] (w) := by
    intro c1 c2 hv
    obtain ⟨hc1, hc2⟩ := hv
    refine x_callV (ci := 5) (C := RX4) (T := TX4) (N := 7) Z okX4_isThrown q1077 q1079 q11 rfl dX4_put_27 (c_X4_isThrown h0 htr hS) hS.1 ⟨Nat.le_of_ble_eq_true rfl, Nat.le_of_ble_eq_true rfl, Nat.le_of_ble_eq_true rfl, Nat.le_of_ble_eq_true rfl⟩ rfl rfl (Nat.le_of_ble_eq_true rfl) (fun v9 w9 hR => ?_)
    obtain ⟨rfl, hS, hf9⟩ := hR
    have hf0 := hf0.tr hf9
    simp only [Option.toList_some, Option.toList_none, List.cons_append, List.nil_append]
    refine x_ifb_eq Z 35 dX4_put_30 (by decide) (fun c30 => ?_) (fun c30 => ?_)
    ·
      obtain ⟨ea, ec⟩ := bor_f c30
      have o1 := bq_n hc1 ea
      have o2 := bq_n hc2 ec
      subst ea
      subst ec
      obtain ⟨hr1, hr2, ⟨f3, hr3, hf3⟩, hr4, hr5, hr6⟩ := id hS
      obtain ⟨hrt, hn0, hn30, hC⟩ := hr5 t (by omega) (by omega)
      try dsimp only [rT] at hr1 hf3 hr4 hr5 hr6
      try dsimp only [rT] at hrt hn0 hn30 hC
      have en : (rT S (th2 false false)).2.1 t = S.2.1 t := rfl
      have e1 : (rT S (th2 false false)).1 = S.1 := rfl
      have hK : rK (rT S (th2 false false)) (rT S (th2 false false)) t := rK.rf
      refine x_aload_n Z dX4_put_35 rfl rfl ?_
      refine x_getf (ci := 5) (j := 1) (C := RX4) (T := TX4) (N := 7) Z inX4g rfl (by decide) q1042 rfl dX4_put_36 (by assumption) rfl ?_
      refine x_iload_n Z dX4_put_39 rfl rfl ?_
      refine x_aaldR Z dX4_put_40 hr3 (by decide) (by omega) (by omega) (hf3 t (by omega) (by omega)) ?_
      refine x_iload_n Z dX4_put_41 rfl rfl ?_
      refine x_iald Z dX4_put_42 (by assumption) (by omega) (by omega) (by omega) ?_
      refine x_istore (L' := [(4, _), (0, _), (1, _), (2, _), (3, _)]) Z dX4_put_43 (Nat.le_of_ble_eq_true rfl) rfl ?_
      refine x_aload_n Z dX4_put_45 rfl rfl ?_
      refine x_getf (ci := 5) (j := 1) (C := RX4) (T := TX4) (N := 7) Z inX4g rfl (by decide) q1042 rfl dX4_put_46 (by assumption) rfl ?_
      refine x_iload_n Z dX4_put_49 rfl rfl ?_
      refine x_aaldR Z dX4_put_50 hr3 (by decide) (by omega) (by omega) (hf3 t (by omega) (by omega)) ?_
      refine x_iload_n Z dX4_put_51 rfl rfl ?_
      refine x_iload_n Z dX4_put_52 rfl rfl ?_
      have hCp := hC p
      refine x_iast Z dX4_put_53 (by assumption) (by omega) (by omega) (by omega) ?_
      obtain ⟨hS, hf0⟩ := hS.rowf (t := t) (p := p) (x := s) hf0 e1 (by omega) (by omega) (by omega) (by omega)
      have hK := hK.row (X := uF ((rT S (th2 false false)).2.2.1 t) (p) (s))
      obtain ⟨hr1, hr2, ⟨f3, hr3, hf3⟩, hr4, hr5, hr6⟩ := id hS
      obtain ⟨hrt, hn0, hn30, hC⟩ := hr5 t (by omega) (by omega)
      try dsimp only [rT] at hr1 hf3 hr4 hr5 hr6
      try dsimp only [rT] at hrt hn0 hn30 hC
      refine x_aload_n Z dX4_put_54 rfl rfl ?_
      refine x_iload Z dX4_put_55 rfl ?_
      refine x_callV (ci := 5) (C := RX4) (T := TX4) (N := 7) Z okX4_done q1089 q1091 q13 rfl dX4_put_57 (c_X4_done h0 htr hS) hS.1 ⟨Nat.le_of_ble_eq_true rfl, Nat.le_of_ble_eq_true rfl, Nat.le_of_ble_eq_true rfl, Nat.le_of_ble_eq_true rfl⟩ rfl rfl (Nat.le_of_ble_eq_true rfl) (fun v9 w9 hR => ?_)
      obtain ⟨rfl, hS, hf9⟩ := hR
      have hf0 := hf0.trE e1 hf9
      simp only [Option.toList_some, Option.toList_none, List.cons_append, List.nil_append]
      exact x_iret Z E (by first | exact ⟨_, rfl, rAct.bad2 hS hf0 hbad hc1 hc2⟩ | exact ⟨_, rfl, rAct.fin hK hS hf0 e1 o1 o2 rfl rfl (fun j _ _ => congrFun (if_pos rfl) j)⟩) dX4_put_60 (Nat.le_of_ble_eq_true rfl) (Nat.le_of_ble_eq_true rfl)
    ·
      have hbad := c30
      refine x_iconst Z dX4_put_33 ?_
      exact x_iret Z E (by first | exact ⟨_, rfl, rAct.bad2 hS hf0 hbad hc1 hc2⟩ | exact ⟨_, rfl, rAct.fin hK hS hf0 e1 o1 o2 rfl rfl (fun j _ _ => congrFun (if_pos rfl) j)⟩) dX4_put_34 (Nat.le_of_ble_eq_true rfl) (Nat.le_of_ble_eq_true rfl)
  refine x_aload_n Z dX4_put_0 rfl rfl ?_
  refine x_aload_n Z dX4_put_1 rfl rfl ?_
  refine x_iload_n Z dX4_put_2 rfl rfl ?_
  refine x_iload_n Z dX4_put_3 rfl rfl ?_
  refine x_callV (ci := 5) (C := RX4) (T := TX4) (N := 7) Z okX4_isPlace q1097 q1099 q14 rfl dX4_put_4 (c_X4_isPlace h0 htr hS (by assumption) (by assumption)) hS.1 ⟨Nat.le_of_ble_eq_true rfl, Nat.le_of_ble_eq_true rfl, Nat.le_of_ble_eq_true rfl, Nat.le_of_ble_eq_true rfl⟩ rfl rfl (Nat.le_of_ble_eq_true rfl) (fun v9 w9 hR => ?_)
  obtain ⟨o9, rfl, e9, hq⟩ := hR
  refine x_ew e9 ?_
  simp only [Option.toList_some, Option.toList_none, List.cons_append, List.nil_append]
  refine x_ifb_ne Z 14 dX4_put_7 (by decide) (fun c7 => ?_) (fun c7 => ?_)
  ·
    have f7 := bq_t hq c7
    refine x_ib false Z dX4_put_14 (by decide) ?_
    refine x_iload_n Z dX4_put_15 rfl rfl ?_
    refine x_callS Z okX4_isSign q1074 q1075 dX4_put_16 (c_X4_isSign h0 htr (by assumption)) ⟨Nat.le_of_ble_eq_true rfl, Nat.le_of_ble_eq_true rfl, Nat.le_of_ble_eq_true rfl, Nat.le_of_ble_eq_true rfl⟩ rfl rfl (Nat.le_of_ble_eq_true rfl) (fun v9 w9 hR => ?_)
    obtain ⟨o9, rfl, e9, hq⟩ := hR
    refine x_ew e9 ?_
    simp only [Option.toList_some, Option.toList_none, List.cons_append, List.nil_append]
    refine x_ifb_ne Z 26 dX4_put_19 (by decide) (fun c19 => ?_) (fun c19 => ?_)
    ·
      have f19 := bq_t hq c19
      refine x_ib false Z dX4_put_26 (by decide) ?_
      exact join27 _ _ ⟨(by first | exact ⟨fun _ => by omega, fun _ => rfl⟩ | exact ⟨fun h => absurd h (by decide), fun h => (h (by omega)).elim⟩), (by first | exact ⟨fun _ => by omega, fun _ => rfl⟩ | exact ⟨fun h => absurd h (by decide), fun h => (h (by omega)).elim⟩)⟩
    ·
      have f19 := bq_f hq c19
      refine x_ib true Z dX4_put_22 (by decide) ?_
      refine x_goto Z 27 dX4_put_23 (by decide) ?_
      exact join27 _ _ ⟨(by first | exact ⟨fun _ => by omega, fun _ => rfl⟩ | exact ⟨fun h => absurd h (by decide), fun h => (h (by omega)).elim⟩), (by first | exact ⟨fun _ => by omega, fun _ => rfl⟩ | exact ⟨fun h => absurd h (by decide), fun h => (h (by omega)).elim⟩)⟩
  ·
    have f7 := bq_f hq c7
    refine x_ib true Z dX4_put_10 (by decide) ?_
    refine x_goto Z 15 dX4_put_11 (by decide) ?_
    refine x_iload_n Z dX4_put_15 rfl rfl ?_
    refine x_callS Z okX4_isSign q1074 q1075 dX4_put_16 (c_X4_isSign h0 htr (by assumption)) ⟨Nat.le_of_ble_eq_true rfl, Nat.le_of_ble_eq_true rfl, Nat.le_of_ble_eq_true rfl, Nat.le_of_ble_eq_true rfl⟩ rfl rfl (Nat.le_of_ble_eq_true rfl) (fun v9 w9 hR => ?_)
    obtain ⟨o9, rfl, e9, hq⟩ := hR
    refine x_ew e9 ?_
    simp only [Option.toList_some, Option.toList_none, List.cons_append, List.nil_append]
    refine x_ifb_ne Z 26 dX4_put_19 (by decide) (fun c19 => ?_) (fun c19 => ?_)
    ·
      have f19 := bq_t hq c19
      refine x_ib false Z dX4_put_26 (by decide) ?_
      exact join27 _ _ ⟨(by first | exact ⟨fun _ => by omega, fun _ => rfl⟩ | exact ⟨fun h => absurd h (by decide), fun h => (h (by omega)).elim⟩), (by first | exact ⟨fun _ => by omega, fun _ => rfl⟩ | exact ⟨fun h => absurd h (by decide), fun h => (h (by omega)).elim⟩)⟩
    ·
      have f19 := bq_f hq c19
      refine x_ib true Z dX4_put_22 (by decide) ?_
      refine x_goto Z 27 dX4_put_23 (by decide) ?_
      exact join27 _ _ ⟨(by first | exact ⟨fun _ => by omega, fun _ => rfl⟩ | exact ⟨fun h => absurd h (by decide), fun h => (h (by omega)).elim⟩), (by first | exact ⟨fun _ => by omega, fun _ => rfl⟩ | exact ⟨fun h => absurd h (by decide), fun h => (h (by omega)).elim⟩)⟩
abbrev rmc_X4_insert : Room := { frames := 1, cells := 0, slots := 0, locals := 22 }
set_option maxRecDepth 100000 in
theorem c_X4_insert {l : Launch} {s0 : State} {G : gK} {w : wd} (h0 : gS0 s0) (htr : l.stackTraces = false) {R : rA} {S : rM} {t : Int} {p : Int} {s : Int} (hS : rS G w R S) (hit : inr t) (hip : inr p) (his : inr s) : gM l s0 G yX4_insert [Cond.code yX4_insert cX4_insert 5 (some .int)] rmc_X4_insert [rv R.1, iv t, iv p, iv s] w (fun v w' => ∃ z : Int, v = some (iv z) ∧ rAct G w R S ((0 ≤ t ∧ t < 3) ∧ 0 ≤ p ∧ p ≤ S.2.1 t) (0 ≤ s ∧ s < 256) (acIns S.2.1 S.2.2.1 t p s) w' z) (noX) := by
  refine g_of h0 htr (by decide +kernel) (Nat.le_of_ble_eq_true rfl) ?_
  intro b Z0 E
  have Z : gAm b l s0 G cX4_insert RX4 5 rmc_X4_insert := Z0
  refine x_el (L' := [(0, rv R.1), (1, iv t), (2, iv p), (3, iv s)]) rfl ?_
  obtain ⟨hr1, hr2, ⟨f3, hr3, hf3⟩, hr4, hr5, hr6⟩ := id hS
  have hf0 : fr (rP R S.1) w w := fr.rf
  have join39 : ∀ (c1 c2 : Bool), ((c1 = true ↔ ¬ ((0 ≤ t ∧ t < 3) ∧ 0 ≤ p ∧ p ≤ S.2.1 t)) ∧ (c2 = true ↔ ¬ (0 ≤ s ∧ s < 256))) → gX b s0 G (0) (0) 39 [(0, rv R.1), (1, iv t), (2, iv p), (3, iv s)] [iv (b2 c2), iv (b2 c1), rv R.1] (w) := by
    intro c1 c2 hv
    obtain ⟨hc1, hc2⟩ := hv
    refine x_callV (ci := 5) (C := RX4) (T := TX4) (N := 7) Z okX4_isThrown q1077 q1079 q11 rfl dX4_insert_39 (c_X4_isThrown h0 htr hS) hS.1 ⟨Nat.le_of_ble_eq_true rfl, Nat.le_of_ble_eq_true rfl, Nat.le_of_ble_eq_true rfl, Nat.le_of_ble_eq_true rfl⟩ rfl rfl (Nat.le_of_ble_eq_true rfl) (fun v9 w9 hR => ?_)
    obtain ⟨rfl, hS, hf9⟩ := hR
    have hf0 := hf0.tr hf9
    simp only [Option.toList_some, Option.toList_none, List.cons_append, List.nil_append]
    refine x_ifb_eq Z 47 dX4_insert_42 (by decide) (fun c42 => ?_) (fun c42 => ?_)
    ·
      obtain ⟨ea, ec⟩ := bor_f c42
      have o1 := bq_n hc1 ea
      have o2 := bq_n hc2 ec
      subst ea
      subst ec
      obtain ⟨hr1, hr2, ⟨f3, hr3, hf3⟩, hr4, hr5, hr6⟩ := id hS
      obtain ⟨hrt, hn0, hn30, hC⟩ := hr5 t (by omega) (by omega)
      try dsimp only [rT] at hr1 hf3 hr4 hr5 hr6
      try dsimp only [rT] at hrt hn0 hn30 hC
      have en : (rT S (th2 false false)).2.1 t = S.2.1 t := rfl
      have e1 : (rT S (th2 false false)).1 = S.1 := rfl
      have hK : rK (rT S (th2 false false)) (rT S (th2 false false)) t := rK.rf
      refine x_aload_n Z dX4_insert_47 rfl rfl ?_
      refine x_getf (ci := 5) (j := 2) (C := RX4) (T := TX4) (N := 7) Z inX4g rfl (by decide) q1043 rfl dX4_insert_48 (by assumption) rfl ?_
      refine x_iload_n Z dX4_insert_51 rfl rfl ?_
      refine x_iald Z dX4_insert_52 (by assumption) (by omega) (by omega) (by omega) ?_
      refine x_bipush Z dX4_insert_53 (by decide +kernel) ?_
      refine x_icmp_ne Z 63 dX4_insert_55 (by decide) ⟨by omega, by omega⟩ ⟨by omega, by omega⟩ (fun c55 => ?_) (fun c55 => ?_)
      ·
        refine x_aload_n Z dX4_insert_63 rfl rfl ?_
        refine x_getf (ci := 5) (j := 2) (C := RX4) (T := TX4) (N := 7) Z inX4g rfl (by decide) q1043 rfl dX4_insert_64 (by assumption) rfl ?_
        refine x_iload_n Z dX4_insert_67 rfl rfl ?_
        refine x_iald Z dX4_insert_68 (by assumption) (by omega) (by omega) (by omega) ?_
        refine x_istore (L' := [(4, _), (0, _), (1, _), (2, _), (3, _)]) Z dX4_insert_69 (Nat.le_of_ble_eq_true rfl) rfl ?_
        have loop71 : ∀ (fu : Nat) (i : Int) (S1 : rM) (w1 : wd), i < (fu : Int) → (p ≤ i ∧ i ≤ S.2.1 t ∧ rS G w1 R S1 ∧ S1.1 = S.1 ∧ S1.2.1 t = S.2.1 t ∧ rK (rT S (th2 false false)) S1 t ∧ (S1.2.2.1 t = shf i (S.2.1 t) (S.2.2.1 t)) ∧ fr (rP R S.1) w w1) → gX b s0 G (0) (0) 71 [(4, iv i), (0, rv R.1), (1, iv t), (2, iv p), (3, iv s)] [] (w1) := by
          intro fu; induction fu with
          | zero => intro i S1 w1 hm hv; exact absurd hm (by omega)
          | succ fu ih71 =>
            intro i S1 w1 hm hv
            obtain ⟨hi0, hin, hS, e1, en, hK, hc, hf0⟩ := hv
            obtain ⟨hr1, hr2, ⟨f3, hr3, hf3⟩, hr4, hr5, hr6⟩ := id hS
            obtain ⟨hrt, hn0, hn30, hC⟩ := hr5 t (by omega) (by omega)
            try dsimp only [rT] at hr1 hf3 hr4 hr5 hr6
            try dsimp only [rT] at hrt hn0 hn30 hC
            refine x_iload Z dX4_insert_71 rfl ?_
            refine x_iload_n Z dX4_insert_73 rfl rfl ?_
            refine x_icmp_le Z 103 dX4_insert_74 (by decide) ⟨by omega, by omega⟩ ⟨by omega, by omega⟩ (fun c74 => ?_) (fun c74 => ?_)
            ·
              refine x_aload_n Z dX4_insert_103 rfl rfl ?_
              refine x_getf (ci := 5) (j := 1) (C := RX4) (T := TX4) (N := 7) Z inX4g rfl (by decide) q1042 rfl dX4_insert_104 (by assumption) rfl ?_
              refine x_iload_n Z dX4_insert_107 rfl rfl ?_
              refine x_aaldR Z dX4_insert_108 hr3 (by decide) (by omega) (by omega) (hf3 t (by omega) (by omega)) ?_
              refine x_iload_n Z dX4_insert_109 rfl rfl ?_
              refine x_iload_n Z dX4_insert_110 rfl rfl ?_
              refine x_iast Z dX4_insert_111 (by assumption) (by omega) (by omega) (by omega) ?_
              obtain ⟨hS, hf0⟩ := hS.rowf (t := t) (p := p) (x := s) hf0 e1 (by omega) (by omega) (by omega) (by omega)
              have hK := hK.row (X := uF (S1.2.2.1 t) (p) (s))
              obtain ⟨hr1, hr2, ⟨f3, hr3, hf3⟩, hr4, hr5, hr6⟩ := id hS
              obtain ⟨hrt, hn0, hn30, hC⟩ := hr5 t (by omega) (by omega)
              try dsimp only [rT] at hr1 hf3 hr4 hr5 hr6
              try dsimp only [rT] at hrt hn0 hn30 hC
              refine x_aload_n Z dX4_insert_112 rfl rfl ?_
              refine x_getf (ci := 5) (j := 2) (C := RX4) (T := TX4) (N := 7) Z inX4g rfl (by decide) q1043 rfl dX4_insert_113 (by assumption) rfl ?_
              refine x_iload_n Z dX4_insert_116 rfl rfl ?_
              refine x_dup2 Z dX4_insert_117 rfl rfl ?_
              refine x_iald Z dX4_insert_118 (by assumption) (by omega) (by omega) (by omega) ?_
              refine x_iconst Z dX4_insert_119 ?_
              refine x_iadd Z dX4_insert_120 ?_
              refine x_iast Z dX4_insert_121 (by assumption) (by omega) (by omega) (by omega) ?_
              obtain ⟨hS, hf0⟩ := hS.sizf (t := t) (x := S1.2.1 t + 1) hf0 (by omega) (by omega)
              have hK := hK.siz (x := S1.2.1 t + 1)
              obtain ⟨hr1, hr2, ⟨f3, hr3, hf3⟩, hr4, hr5, hr6⟩ := id hS
              obtain ⟨hrt, hn0, hn30, hC⟩ := hr5 t (by omega) (by omega)
              try dsimp only [rT] at hr1 hf3 hr4 hr5 hr6
              try dsimp only [rT] at hrt hn0 hn30 hC
              refine x_aload_n Z dX4_insert_122 rfl rfl ?_
              refine x_aload_n Z dX4_insert_123 rfl rfl ?_
              refine x_getf (ci := 5) (j := 2) (C := RX4) (T := TX4) (N := 7) Z inX4g rfl (by decide) q1043 rfl dX4_insert_124 (by assumption) rfl ?_
              refine x_iload_n Z dX4_insert_127 rfl rfl ?_
              refine x_iald Z dX4_insert_128 (by assumption) (by omega) (by omega) (by omega) ?_
              refine x_callV (ci := 5) (C := RX4) (T := TX4) (N := 7) Z okX4_done q1089 q1091 q13 rfl dX4_insert_129 (c_X4_done h0 htr hS) hS.1 ⟨Nat.le_of_ble_eq_true rfl, Nat.le_of_ble_eq_true rfl, Nat.le_of_ble_eq_true rfl, Nat.le_of_ble_eq_true rfl⟩ rfl rfl (Nat.le_of_ble_eq_true rfl) (fun v9 w9 hR => ?_)
              obtain ⟨rfl, hS, hf9⟩ := hR
              have hf0 := hf0.trE e1 hf9
              simp only [Option.toList_some, Option.toList_none, List.cons_append, List.nil_append]
              exact x_iret Z E (by first | exact ⟨_, rfl, rAct.bad2 hS hf0 hbad hc1 hc2⟩ | exact ⟨_, rfl, rAct.fin hK hS hf0 e1 o1 o2 (n' := S.2.1 t + 1) (D := tins (S.2.1 t) p s (S.2.2.1 t)) (by unfold acIns; rw [if_neg (by omega), uF_s, en]) (uF_s.trans (by rw [en])) (fun j _ _ => (congrFun (if_pos rfl) j).trans (by rw [hc, show i = p by omega]; rfl))⟩) dX4_insert_132 (Nat.le_of_ble_eq_true rfl) (Nat.le_of_ble_eq_true rfl)
            ·
              refine x_aload_n Z dX4_insert_77 rfl rfl ?_
              refine x_getf (ci := 5) (j := 1) (C := RX4) (T := TX4) (N := 7) Z inX4g rfl (by decide) q1042 rfl dX4_insert_78 (by assumption) rfl ?_
              refine x_iload_n Z dX4_insert_81 rfl rfl ?_
              refine x_aaldR Z dX4_insert_82 hr3 (by decide) (by omega) (by omega) (hf3 t (by omega) (by omega)) ?_
              refine x_iload Z dX4_insert_83 rfl ?_
              refine x_aload_n Z dX4_insert_85 rfl rfl ?_
              refine x_getf (ci := 5) (j := 1) (C := RX4) (T := TX4) (N := 7) Z inX4g rfl (by decide) q1042 rfl dX4_insert_86 (by assumption) rfl ?_
              refine x_iload_n Z dX4_insert_89 rfl rfl ?_
              refine x_aaldR Z dX4_insert_90 hr3 (by decide) (by omega) (by omega) (hf3 t (by omega) (by omega)) ?_
              refine x_iload Z dX4_insert_91 rfl ?_
              refine x_iconst Z dX4_insert_93 ?_
              refine x_isub Z dX4_insert_94 ?_
              refine x_iald Z dX4_insert_95 (by assumption) (by omega) (by omega) (by omega) ?_
              refine x_iast Z dX4_insert_96 (by assumption) (by omega) (by omega) (by omega) ?_
              refine x_iinc (L' := [(4, _), (0, _), (1, _), (2, _), (3, _)]) Z dX4_insert_97 rfl (Nat.le_of_ble_eq_true rfl) rfl ?_
              refine x_goto Z 71 dX4_insert_100 (by decide) ?_
              exact ih71 (i + -1) _ _ (by omega) ⟨by omega, by omega, hS.row (t := t) (p := i) (by omega) (by omega) (hC (i - 1)).1 (hC (i - 1)).2, e1, en, hK.row, (if_pos rfl).trans (by rw [hc]; exact shf_s (by omega)), hf0.set (rP_e (t := t) e1 (by omega) (by omega))⟩
        exact loop71 40 (S.2.1 t) _ _ (by omega) ⟨by omega, by omega, hS, e1, en, hK, shf_n.symm, hf0⟩
      ·
        refine x_aload_n Z dX4_insert_58 rfl rfl ?_
        refine x_callV (ci := 5) (C := RX4) (T := TX4) (N := 7) Z okX4_no q1085 q1087 q12 rfl dX4_insert_59 (c_X4_no h0 htr hS) hS.1 ⟨Nat.le_of_ble_eq_true rfl, Nat.le_of_ble_eq_true rfl, Nat.le_of_ble_eq_true rfl, Nat.le_of_ble_eq_true rfl⟩ rfl rfl (Nat.le_of_ble_eq_true rfl) (fun v9 w9 hR => ?_)
        obtain ⟨rfl, hS, hf9⟩ := hR
        have hf0 := hf0.trE e1 hf9
        simp only [Option.toList_some, Option.toList_none, List.cons_append, List.nil_append]
        exact x_iret Z E (⟨_, rfl, rAct.no (t := t) hS hf0 o1 o2 (by unfold acIns; rw [if_pos (by omega)])⟩) dX4_insert_62 (Nat.le_of_ble_eq_true rfl) (Nat.le_of_ble_eq_true rfl)
    ·
      have hbad := c42
      refine x_iconst Z dX4_insert_45 ?_
      exact x_iret Z E (by first | exact ⟨_, rfl, rAct.bad2 hS hf0 hbad hc1 hc2⟩ | exact ⟨_, rfl, rAct.fin hK hS hf0 e1 o1 o2 (n' := S.2.1 t + 1) (D := tins (S.2.1 t) p s (S.2.2.1 t)) (by unfold acIns; rw [if_neg (by omega), uF_s, en]) (uF_s.trans (by rw [en])) (fun j _ _ => (congrFun (if_pos rfl) j).trans (by rw [hc, show i = p by omega]; rfl))⟩) dX4_insert_46 (Nat.le_of_ble_eq_true rfl) (Nat.le_of_ble_eq_true rfl)
  refine x_aload_n Z dX4_insert_0 rfl rfl ?_
  refine x_iload_n Z dX4_insert_1 rfl rfl ?_
  refine x_callS Z okX4_is q1071 q1072 dX4_insert_2 (c_X4_is h0 htr (by assumption)) ⟨Nat.le_of_ble_eq_true rfl, Nat.le_of_ble_eq_true rfl, Nat.le_of_ble_eq_true rfl, Nat.le_of_ble_eq_true rfl⟩ rfl rfl (Nat.le_of_ble_eq_true rfl) (fun v9 w9 hR => ?_)
  obtain ⟨o9, rfl, e9, hq⟩ := hR
  refine x_ew e9 ?_
  simp only [Option.toList_some, Option.toList_none, List.cons_append, List.nil_append]
  refine x_ifb_eq Z 22 dX4_insert_5 (by decide) (fun c5 => ?_) (fun c5 => ?_)
  ·
    have f5 := bq_f hq c5
    refine x_ib true Z dX4_insert_22 (by decide) ?_
    refine x_goto Z 27 dX4_insert_23 (by decide) ?_
    refine x_iload_n Z dX4_insert_27 rfl rfl ?_
    refine x_callS Z okX4_isSign q1074 q1075 dX4_insert_28 (c_X4_isSign h0 htr (by assumption)) ⟨Nat.le_of_ble_eq_true rfl, Nat.le_of_ble_eq_true rfl, Nat.le_of_ble_eq_true rfl, Nat.le_of_ble_eq_true rfl⟩ rfl rfl (Nat.le_of_ble_eq_true rfl) (fun v9 w9 hR => ?_)
    obtain ⟨o9, rfl, e9, hq⟩ := hR
    refine x_ew e9 ?_
    simp only [Option.toList_some, Option.toList_none, List.cons_append, List.nil_append]
    refine x_ifb_ne Z 38 dX4_insert_31 (by decide) (fun c31 => ?_) (fun c31 => ?_)
    ·
      have f31 := bq_t hq c31
      refine x_ib false Z dX4_insert_38 (by decide) ?_
      exact join39 _ _ ⟨(by first | exact ⟨fun _ => by omega, fun _ => rfl⟩ | exact ⟨fun h => absurd h (by decide), fun h => (h (by omega)).elim⟩), (by first | exact ⟨fun _ => by omega, fun _ => rfl⟩ | exact ⟨fun h => absurd h (by decide), fun h => (h (by omega)).elim⟩)⟩
    ·
      have f31 := bq_f hq c31
      refine x_ib true Z dX4_insert_34 (by decide) ?_
      refine x_goto Z 39 dX4_insert_35 (by decide) ?_
      exact join39 _ _ ⟨(by first | exact ⟨fun _ => by omega, fun _ => rfl⟩ | exact ⟨fun h => absurd h (by decide), fun h => (h (by omega)).elim⟩), (by first | exact ⟨fun _ => by omega, fun _ => rfl⟩ | exact ⟨fun h => absurd h (by decide), fun h => (h (by omega)).elim⟩)⟩
  ·
    have f5 := bq_t hq c5
    refine x_iload_n Z dX4_insert_8 rfl rfl ?_
    refine x_if_lt Z 22 dX4_insert_9 (by decide) ⟨by omega, by omega⟩ (fun c9 => ?_) (fun c9 => ?_)
    ·
      refine x_ib true Z dX4_insert_22 (by decide) ?_
      refine x_goto Z 27 dX4_insert_23 (by decide) ?_
      refine x_iload_n Z dX4_insert_27 rfl rfl ?_
      refine x_callS Z okX4_isSign q1074 q1075 dX4_insert_28 (c_X4_isSign h0 htr (by assumption)) ⟨Nat.le_of_ble_eq_true rfl, Nat.le_of_ble_eq_true rfl, Nat.le_of_ble_eq_true rfl, Nat.le_of_ble_eq_true rfl⟩ rfl rfl (Nat.le_of_ble_eq_true rfl) (fun v9 w9 hR => ?_)
      obtain ⟨o9, rfl, e9, hq⟩ := hR
      refine x_ew e9 ?_
      simp only [Option.toList_some, Option.toList_none, List.cons_append, List.nil_append]
      refine x_ifb_ne Z 38 dX4_insert_31 (by decide) (fun c31 => ?_) (fun c31 => ?_)
      ·
        have f31 := bq_t hq c31
        refine x_ib false Z dX4_insert_38 (by decide) ?_
        exact join39 _ _ ⟨(by first | exact ⟨fun _ => by omega, fun _ => rfl⟩ | exact ⟨fun h => absurd h (by decide), fun h => (h (by omega)).elim⟩), (by first | exact ⟨fun _ => by omega, fun _ => rfl⟩ | exact ⟨fun h => absurd h (by decide), fun h => (h (by omega)).elim⟩)⟩
      ·
        have f31 := bq_f hq c31
        refine x_ib true Z dX4_insert_34 (by decide) ?_
        refine x_goto Z 39 dX4_insert_35 (by decide) ?_
        exact join39 _ _ ⟨(by first | exact ⟨fun _ => by omega, fun _ => rfl⟩ | exact ⟨fun h => absurd h (by decide), fun h => (h (by omega)).elim⟩), (by first | exact ⟨fun _ => by omega, fun _ => rfl⟩ | exact ⟨fun h => absurd h (by decide), fun h => (h (by omega)).elim⟩)⟩
    ·
      have ⟨_, hn0, hn30, _⟩ := hr5 t (by omega) (by omega)
      refine x_iload_n Z dX4_insert_12 rfl rfl ?_
      refine x_aload_n Z dX4_insert_13 rfl rfl ?_
      refine x_getf (ci := 5) (j := 2) (C := RX4) (T := TX4) (N := 7) Z inX4g rfl (by decide) q1043 rfl dX4_insert_14 (by assumption) rfl ?_
      refine x_iload_n Z dX4_insert_17 rfl rfl ?_
      refine x_iald Z dX4_insert_18 (by assumption) (by omega) (by omega) (by omega) ?_
      refine x_icmp_le Z 26 dX4_insert_19 (by decide) ⟨by omega, by omega⟩ ⟨by omega, by omega⟩ (fun c19 => ?_) (fun c19 => ?_)
      ·
        refine x_ib false Z dX4_insert_26 (by decide) ?_
        refine x_iload_n Z dX4_insert_27 rfl rfl ?_
        refine x_callS Z okX4_isSign q1074 q1075 dX4_insert_28 (c_X4_isSign h0 htr (by assumption)) ⟨Nat.le_of_ble_eq_true rfl, Nat.le_of_ble_eq_true rfl, Nat.le_of_ble_eq_true rfl, Nat.le_of_ble_eq_true rfl⟩ rfl rfl (Nat.le_of_ble_eq_true rfl) (fun v9 w9 hR => ?_)
        obtain ⟨o9, rfl, e9, hq⟩ := hR
        refine x_ew e9 ?_
        simp only [Option.toList_some, Option.toList_none, List.cons_append, List.nil_append]
        refine x_ifb_ne Z 38 dX4_insert_31 (by decide) (fun c31 => ?_) (fun c31 => ?_)
        ·
          have f31 := bq_t hq c31
          refine x_ib false Z dX4_insert_38 (by decide) ?_
          exact join39 _ _ ⟨(by first | exact ⟨fun _ => by omega, fun _ => rfl⟩ | exact ⟨fun h => absurd h (by decide), fun h => (h (by omega)).elim⟩), (by first | exact ⟨fun _ => by omega, fun _ => rfl⟩ | exact ⟨fun h => absurd h (by decide), fun h => (h (by omega)).elim⟩)⟩
        ·
          have f31 := bq_f hq c31
          refine x_ib true Z dX4_insert_34 (by decide) ?_
          refine x_goto Z 39 dX4_insert_35 (by decide) ?_
          exact join39 _ _ ⟨(by first | exact ⟨fun _ => by omega, fun _ => rfl⟩ | exact ⟨fun h => absurd h (by decide), fun h => (h (by omega)).elim⟩), (by first | exact ⟨fun _ => by omega, fun _ => rfl⟩ | exact ⟨fun h => absurd h (by decide), fun h => (h (by omega)).elim⟩)⟩
      ·
        refine x_ib true Z dX4_insert_22 (by decide) ?_
        refine x_goto Z 27 dX4_insert_23 (by decide) ?_
        refine x_iload_n Z dX4_insert_27 rfl rfl ?_
        refine x_callS Z okX4_isSign q1074 q1075 dX4_insert_28 (c_X4_isSign h0 htr (by assumption)) ⟨Nat.le_of_ble_eq_true rfl, Nat.le_of_ble_eq_true rfl, Nat.le_of_ble_eq_true rfl, Nat.le_of_ble_eq_true rfl⟩ rfl rfl (Nat.le_of_ble_eq_true rfl) (fun v9 w9 hR => ?_)
        obtain ⟨o9, rfl, e9, hq⟩ := hR
        refine x_ew e9 ?_
        simp only [Option.toList_some, Option.toList_none, List.cons_append, List.nil_append]
        refine x_ifb_ne Z 38 dX4_insert_31 (by decide) (fun c31 => ?_) (fun c31 => ?_)
        ·
          have f31 := bq_t hq c31
          refine x_ib false Z dX4_insert_38 (by decide) ?_
          exact join39 _ _ ⟨(by first | exact ⟨fun _ => by omega, fun _ => rfl⟩ | exact ⟨fun h => absurd h (by decide), fun h => (h (by omega)).elim⟩), (by first | exact ⟨fun _ => by omega, fun _ => rfl⟩ | exact ⟨fun h => absurd h (by decide), fun h => (h (by omega)).elim⟩)⟩
        ·
          have f31 := bq_f hq c31
          refine x_ib true Z dX4_insert_34 (by decide) ?_
          refine x_goto Z 39 dX4_insert_35 (by decide) ?_
          exact join39 _ _ ⟨(by first | exact ⟨fun _ => by omega, fun _ => rfl⟩ | exact ⟨fun h => absurd h (by decide), fun h => (h (by omega)).elim⟩), (by first | exact ⟨fun _ => by omega, fun _ => rfl⟩ | exact ⟨fun h => absurd h (by decide), fun h => (h (by omega)).elim⟩)⟩
abbrev rmc_X4_add : Room := { frames := 2, cells := 0, slots := 0, locals := 46 }
set_option maxRecDepth 100000 in
theorem c_X4_add {l : Launch} {s0 : State} {G : gK} {w : wd} (h0 : gS0 s0) (htr : l.stackTraces = false) {R : rA} {S : rM} {t : Int} {s : Int} (hS : rS G w R S) (hit : inr t) (his : inr s) : gM l s0 G yX4_add [Cond.code yX4_add cX4_add 3 (some .int)] rmc_X4_add [rv R.1, iv t, iv s] w (fun v w' => ∃ z : Int, v = some (iv z) ∧ rAct G w R S (0 ≤ t ∧ t < 3) (0 ≤ s ∧ s < 256) (acIns S.2.1 S.2.2.1 t (S.2.1 t) s) w' z) (noX) := by
  refine g_of h0 htr (by decide +kernel) (Nat.le_of_ble_eq_true rfl) ?_
  intro b Z0 E
  have Z : gAm b l s0 G cX4_add RX4 3 rmc_X4_add := Z0
  refine x_el (L' := [(0, rv R.1), (1, iv t), (2, iv s)]) rfl ?_
  obtain ⟨hr1, hr2, ⟨f3, hr3, hf3⟩, hr4, hr5, hr6⟩ := id hS
  have hf0 : fr (rP R S.1) w w := fr.rf
  have join25 : ∀ (c1 c2 : Bool), ((c1 = true ↔ ¬ (0 ≤ t ∧ t < 3)) ∧ (c2 = true ↔ ¬ (0 ≤ s ∧ s < 256))) → gX b s0 G (0) (0) 25 [(0, rv R.1), (1, iv t), (2, iv s)] [iv (b2 c2), iv (b2 c1), rv R.1] (w) := by
    intro c1 c2 hv
    obtain ⟨hc1, hc2⟩ := hv
    refine x_callV (ci := 5) (C := RX4) (T := TX4) (N := 7) Z okX4_isThrown q1077 q1079 q11 rfl dX4_add_25 (c_X4_isThrown h0 htr hS) hS.1 ⟨Nat.le_of_ble_eq_true rfl, Nat.le_of_ble_eq_true rfl, Nat.le_of_ble_eq_true rfl, Nat.le_of_ble_eq_true rfl⟩ rfl rfl (Nat.le_of_ble_eq_true rfl) (fun v9 w9 hR => ?_)
    obtain ⟨rfl, hS, hf9⟩ := hR
    have hf0 := hf0.tr hf9
    simp only [Option.toList_some, Option.toList_none, List.cons_append, List.nil_append]
    refine x_ifb_eq Z 33 dX4_add_28 (by decide) (fun c28 => ?_) (fun c28 => ?_)
    ·
      obtain ⟨ea, ec⟩ := bor_f c28
      have o1 := bq_n hc1 ea
      have o2 := bq_n hc2 ec
      subst ea
      subst ec
      obtain ⟨hr1, hr2, ⟨f3, hr3, hf3⟩, hr4, hr5, hr6⟩ := id hS
      obtain ⟨hrt, hn0, hn30, hC⟩ := hr5 t (by omega) (by omega)
      try dsimp only [rT] at hr1 hf3 hr4 hr5 hr6
      try dsimp only [rT] at hrt hn0 hn30 hC
      have en : (rT S (th2 false false)).2.1 t = S.2.1 t := rfl
      have e1 : (rT S (th2 false false)).1 = S.1 := rfl
      have hK : rK (rT S (th2 false false)) (rT S (th2 false false)) t := rK.rf
      have hV0 : rV G w R S w9 (rT S (th2 false false)) := ⟨hS, rfl, hf0, fun x hx => Or.inl hx⟩
      have hix : inr (S.2.1 t) := ⟨by omega, by omega⟩
      refine x_aload_n Z dX4_add_33 rfl rfl ?_
      refine x_iload_n Z dX4_add_34 rfl rfl ?_
      refine x_aload_n Z dX4_add_35 rfl rfl ?_
      refine x_getf (ci := 5) (j := 2) (C := RX4) (T := TX4) (N := 7) Z inX4g rfl (by decide) q1043 rfl dX4_add_36 (by assumption) rfl ?_
      refine x_iload_n Z dX4_add_39 rfl rfl ?_
      refine x_iald Z dX4_add_40 (by assumption) (by omega) (by omega) (by omega) ?_
      refine x_iload_n Z dX4_add_41 rfl rfl ?_
      refine x_callV (ci := 5) (C := RX4) (T := TX4) (N := 7) Z okX4_insert q1081 q1082 q1083 rfl dX4_add_42 (c_X4_insert h0 htr hS (by assumption) hix (by assumption)) hS.1 ⟨Nat.le_of_ble_eq_true rfl, Nat.le_of_ble_eq_true rfl, Nat.le_of_ble_eq_true rfl, Nat.le_of_ble_eq_true rfl⟩ rfl rfl (Nat.le_of_ble_eq_true rfl) (fun v9 w9 hR => ?_)
      obtain ⟨z9, rfl, hA9⟩ := hR
      simp only [Option.toList_some, Option.toList_none, List.cons_append, List.nil_append]
      exact x_iret Z E (⟨_, rfl, rAct.via hV0 hA9 (by omega) (by omega) o1 o2⟩) dX4_add_45 (Nat.le_of_ble_eq_true rfl) (Nat.le_of_ble_eq_true rfl)
    ·
      have hbad := c28
      refine x_iconst Z dX4_add_31 ?_
      exact x_iret Z E (by first | exact ⟨_, rfl, rAct.bad2 hS hf0 hbad hc1 hc2⟩ | exact ⟨_, rfl, rAct.bad2 hS hf0 hbad hc1 hc2⟩) dX4_add_32 (Nat.le_of_ble_eq_true rfl) (Nat.le_of_ble_eq_true rfl)
  refine x_aload_n Z dX4_add_0 rfl rfl ?_
  refine x_iload_n Z dX4_add_1 rfl rfl ?_
  refine x_callS Z okX4_is q1071 q1072 dX4_add_2 (c_X4_is h0 htr (by assumption)) ⟨Nat.le_of_ble_eq_true rfl, Nat.le_of_ble_eq_true rfl, Nat.le_of_ble_eq_true rfl, Nat.le_of_ble_eq_true rfl⟩ rfl rfl (Nat.le_of_ble_eq_true rfl) (fun v9 w9 hR => ?_)
  obtain ⟨o9, rfl, e9, hq⟩ := hR
  refine x_ew e9 ?_
  simp only [Option.toList_some, Option.toList_none, List.cons_append, List.nil_append]
  refine x_ifb_ne Z 12 dX4_add_5 (by decide) (fun c5 => ?_) (fun c5 => ?_)
  ·
    have f5 := bq_t hq c5
    refine x_ib false Z dX4_add_12 (by decide) ?_
    refine x_iload_n Z dX4_add_13 rfl rfl ?_
    refine x_callS Z okX4_isSign q1074 q1075 dX4_add_14 (c_X4_isSign h0 htr (by assumption)) ⟨Nat.le_of_ble_eq_true rfl, Nat.le_of_ble_eq_true rfl, Nat.le_of_ble_eq_true rfl, Nat.le_of_ble_eq_true rfl⟩ rfl rfl (Nat.le_of_ble_eq_true rfl) (fun v9 w9 hR => ?_)
    obtain ⟨o9, rfl, e9, hq⟩ := hR
    refine x_ew e9 ?_
    simp only [Option.toList_some, Option.toList_none, List.cons_append, List.nil_append]
    refine x_ifb_ne Z 24 dX4_add_17 (by decide) (fun c17 => ?_) (fun c17 => ?_)
    ·
      have f17 := bq_t hq c17
      refine x_ib false Z dX4_add_24 (by decide) ?_
      exact join25 _ _ ⟨(by first | exact ⟨fun _ => by omega, fun _ => rfl⟩ | exact ⟨fun h => absurd h (by decide), fun h => (h (by omega)).elim⟩), (by first | exact ⟨fun _ => by omega, fun _ => rfl⟩ | exact ⟨fun h => absurd h (by decide), fun h => (h (by omega)).elim⟩)⟩
    ·
      have f17 := bq_f hq c17
      refine x_ib true Z dX4_add_20 (by decide) ?_
      refine x_goto Z 25 dX4_add_21 (by decide) ?_
      exact join25 _ _ ⟨(by first | exact ⟨fun _ => by omega, fun _ => rfl⟩ | exact ⟨fun h => absurd h (by decide), fun h => (h (by omega)).elim⟩), (by first | exact ⟨fun _ => by omega, fun _ => rfl⟩ | exact ⟨fun h => absurd h (by decide), fun h => (h (by omega)).elim⟩)⟩
  ·
    have f5 := bq_f hq c5
    refine x_ib true Z dX4_add_8 (by decide) ?_
    refine x_goto Z 13 dX4_add_9 (by decide) ?_
    refine x_iload_n Z dX4_add_13 rfl rfl ?_
    refine x_callS Z okX4_isSign q1074 q1075 dX4_add_14 (c_X4_isSign h0 htr (by assumption)) ⟨Nat.le_of_ble_eq_true rfl, Nat.le_of_ble_eq_true rfl, Nat.le_of_ble_eq_true rfl, Nat.le_of_ble_eq_true rfl⟩ rfl rfl (Nat.le_of_ble_eq_true rfl) (fun v9 w9 hR => ?_)
    obtain ⟨o9, rfl, e9, hq⟩ := hR
    refine x_ew e9 ?_
    simp only [Option.toList_some, Option.toList_none, List.cons_append, List.nil_append]
    refine x_ifb_ne Z 24 dX4_add_17 (by decide) (fun c17 => ?_) (fun c17 => ?_)
    ·
      have f17 := bq_t hq c17
      refine x_ib false Z dX4_add_24 (by decide) ?_
      exact join25 _ _ ⟨(by first | exact ⟨fun _ => by omega, fun _ => rfl⟩ | exact ⟨fun h => absurd h (by decide), fun h => (h (by omega)).elim⟩), (by first | exact ⟨fun _ => by omega, fun _ => rfl⟩ | exact ⟨fun h => absurd h (by decide), fun h => (h (by omega)).elim⟩)⟩
    ·
      have f17 := bq_f hq c17
      refine x_ib true Z dX4_add_20 (by decide) ?_
      refine x_goto Z 25 dX4_add_21 (by decide) ?_
      exact join25 _ _ ⟨(by first | exact ⟨fun _ => by omega, fun _ => rfl⟩ | exact ⟨fun h => absurd h (by decide), fun h => (h (by omega)).elim⟩), (by first | exact ⟨fun _ => by omega, fun _ => rfl⟩ | exact ⟨fun h => absurd h (by decide), fun h => (h (by omega)).elim⟩)⟩
abbrev rmc_X4_drop : Room := { frames := 2, cells := 0, slots := 0, locals := 43 }
set_option maxRecDepth 100000 in
theorem c_X4_drop {l : Launch} {s0 : State} {G : gK} {w : wd} (h0 : gS0 s0) (htr : l.stackTraces = false) {R : rA} {S : rM} {t : Int} {p : Int} (hS : rS G w R S) (hit : inr t) (hip : inr p) : gM l s0 G yX4_drop [Cond.code yX4_drop cX4_drop 5 (some .int)] rmc_X4_drop [rv R.1, iv t, iv p] w (fun v w' => ∃ z : Int, v = some (iv z) ∧ rAct G w R S ((0 ≤ t ∧ t < 3) ∧ 0 ≤ p ∧ p < S.2.1 t) (True) (acDrop S.2.1 S.2.2.1 t p) w' z) (noX) := by
  refine g_of h0 htr (by decide +kernel) (Nat.le_of_ble_eq_true rfl) ?_
  intro b Z0 E
  have Z : gAm b l s0 G cX4_drop RX4 5 rmc_X4_drop := Z0
  refine x_el (L' := [(0, rv R.1), (1, iv t), (2, iv p)]) rfl ?_
  obtain ⟨hr1, hr2, ⟨f3, hr3, hf3⟩, hr4, hr5, hr6⟩ := id hS
  have hf0 : fr (rP R S.1) w w := fr.rf
  have join15 : ∀ (c1 : Bool), (c1 = true ↔ ¬ ((0 ≤ t ∧ t < 3) ∧ 0 ≤ p ∧ p < S.2.1 t)) → gX b s0 G (0) (0) 15 [(0, rv R.1), (1, iv t), (2, iv p)] [iv (b2 c1), rv R.1] (w) := by
    intro c1 hv
    have hc1 := hv
    refine x_callV (ci := 5) (C := RX4) (T := TX4) (N := 7) Z okX4_isThrown_ q1106 q1108 q15 rfl dX4_drop_15 (c_X4_isThrown_ h0 htr hS) hS.1 ⟨Nat.le_of_ble_eq_true rfl, Nat.le_of_ble_eq_true rfl, Nat.le_of_ble_eq_true rfl, Nat.le_of_ble_eq_true rfl⟩ rfl rfl (Nat.le_of_ble_eq_true rfl) (fun v9 w9 hR => ?_)
    obtain ⟨rfl, hS, hf9⟩ := hR
    have hf0 := hf0.tr hf9
    simp only [Option.toList_some, Option.toList_none, List.cons_append, List.nil_append]
    refine x_ifb_eq Z 23 dX4_drop_18 (by decide) (fun c18 => ?_) (fun c18 => ?_)
    ·
      have ea := c18
      have o1 := bq_n hc1 ea
      subst ea
      obtain ⟨hr1, hr2, ⟨f3, hr3, hf3⟩, hr4, hr5, hr6⟩ := id hS
      obtain ⟨hrt, hn0, hn30, hC⟩ := hr5 t (by omega) (by omega)
      try dsimp only [rT] at hr1 hf3 hr4 hr5 hr6
      try dsimp only [rT] at hrt hn0 hn30 hC
      have en : (rT S (th2 false false)).2.1 t = S.2.1 t := rfl
      have e1 : (rT S (th2 false false)).1 = S.1 := rfl
      have hK : rK (rT S (th2 false false)) (rT S (th2 false false)) t := rK.rf
      refine x_aload_n Z dX4_drop_23 rfl rfl ?_
      refine x_getf (ci := 5) (j := 1) (C := RX4) (T := TX4) (N := 7) Z inX4g rfl (by decide) q1042 rfl dX4_drop_24 (by assumption) rfl ?_
      refine x_iload_n Z dX4_drop_27 rfl rfl ?_
      refine x_aaldR Z dX4_drop_28 hr3 (by decide) (by omega) (by omega) (hf3 t (by omega) (by omega)) ?_
      refine x_iload_n Z dX4_drop_29 rfl rfl ?_
      refine x_iald Z dX4_drop_30 (by assumption) (by omega) (by omega) (by omega) ?_
      refine x_istore_n (L' := [(3, _), (0, _), (1, _), (2, _)]) Z dX4_drop_31 rfl (Nat.le_of_ble_eq_true rfl) rfl ?_
      refine x_aload_n Z dX4_drop_32 rfl rfl ?_
      refine x_getf (ci := 5) (j := 2) (C := RX4) (T := TX4) (N := 7) Z inX4g rfl (by decide) q1043 rfl dX4_drop_33 (by assumption) rfl ?_
      refine x_iload_n Z dX4_drop_36 rfl rfl ?_
      refine x_dup2 Z dX4_drop_37 rfl rfl ?_
      refine x_iald Z dX4_drop_38 (by assumption) (by omega) (by omega) (by omega) ?_
      refine x_iconst Z dX4_drop_39 ?_
      refine x_isub Z dX4_drop_40 ?_
      refine x_iast Z dX4_drop_41 (by assumption) (by omega) (by omega) (by omega) ?_
      obtain ⟨hS, hf0⟩ := hS.sizf (t := t) (x := S.2.1 t - 1) hf0 (by omega) (by omega)
      have hK := hK.siz (x := S.2.1 t - 1)
      obtain ⟨hr1, hr2, ⟨f3, hr3, hf3⟩, hr4, hr5, hr6⟩ := id hS
      obtain ⟨hrt, hn0, hn30, hC⟩ := hr5 t (by omega) (by omega)
      try dsimp only [rT] at hr1 hf3 hr4 hr5 hr6
      try dsimp only [rT] at hrt hn0 hn30 hC
      refine x_iload_n Z dX4_drop_42 rfl rfl ?_
      refine x_istore (L' := [(4, _), (3, _), (0, _), (1, _), (2, _)]) Z dX4_drop_43 (Nat.le_of_ble_eq_true rfl) rfl ?_
      have loop45 : ∀ (fu : Nat) (i : Int) (S1 : rM) (w1 : wd), (S.2.1 t - 1) - i < (fu : Int) → (p ≤ i ∧ i ≤ (S.2.1 t - 1) ∧ rS G w1 R S1 ∧ S1.1 = S.1 ∧ S1.2.1 t = S.2.1 t - 1 ∧ rK (rT S (th2 false false)) S1 t ∧ (∀ j, S1.2.2.1 t j = if p ≤ j ∧ j < i then S.2.2.1 t (j + 1) else S.2.2.1 t j) ∧ fr (rP R S.1) w w1) → gX b s0 G (0) (0) 45 [(4, iv i), (3, iv (S.2.2.1 t p)), (0, rv R.1), (1, iv t), (2, iv p)] [] (w1) := by
        intro fu; induction fu with
        | zero => intro i S1 w1 hm hv; exact absurd hm (by omega)
        | succ fu ih45 =>
          intro i S1 w1 hm hv
          obtain ⟨hi0, hin, hS, e1, en, hK, hc, hf0⟩ := hv
          obtain ⟨hr1, hr2, ⟨f3, hr3, hf3⟩, hr4, hr5, hr6⟩ := id hS
          obtain ⟨hrt, hn0, hn30, hC⟩ := hr5 t (by omega) (by omega)
          try dsimp only [rT] at hr1 hf3 hr4 hr5 hr6
          try dsimp only [rT] at hrt hn0 hn30 hC
          refine x_iload Z dX4_drop_45 rfl ?_
          refine x_aload_n Z dX4_drop_47 rfl rfl ?_
          refine x_getf (ci := 5) (j := 2) (C := RX4) (T := TX4) (N := 7) Z inX4g rfl (by decide) q1043 rfl dX4_drop_48 (by assumption) rfl ?_
          refine x_iload_n Z dX4_drop_51 rfl rfl ?_
          refine x_iald Z dX4_drop_52 (by assumption) (by omega) (by omega) (by omega) ?_
          refine x_icmp_ge Z 82 dX4_drop_53 (by decide) ⟨by omega, by omega⟩ ⟨by omega, by omega⟩ (fun c53 => ?_) (fun c53 => ?_)
          ·
            refine x_aload_n Z dX4_drop_82 rfl rfl ?_
            refine x_iload_n Z dX4_drop_83 rfl rfl ?_
            refine x_callV (ci := 5) (C := RX4) (T := TX4) (N := 7) Z okX4_done q1089 q1091 q13 rfl dX4_drop_84 (c_X4_done h0 htr hS) hS.1 ⟨Nat.le_of_ble_eq_true rfl, Nat.le_of_ble_eq_true rfl, Nat.le_of_ble_eq_true rfl, Nat.le_of_ble_eq_true rfl⟩ rfl rfl (Nat.le_of_ble_eq_true rfl) (fun v9 w9 hR => ?_)
            obtain ⟨rfl, hS, hf9⟩ := hR
            have hf0 := hf0.trE e1 hf9
            simp only [Option.toList_some, Option.toList_none, List.cons_append, List.nil_append]
            exact x_iret Z E (by first | exact ⟨_, rfl, rAct.bad1 hS hf0 hbad hc1⟩ | exact ⟨_, rfl, rAct.fin hK hS hf0 e1 o1 trivial (n' := S.2.1 t - 1) (D := fun j => if j < p then S.2.2.1 t j else S.2.2.1 t (j + 1)) rfl en (fun j j0 j1 => by { rw [hc j]; by_cases e : j < p; rw [if_neg (by omega)]; exact (if_pos e).symm; rw [if_pos (by omega)]; exact (if_neg e).symm })⟩) dX4_drop_87 (Nat.le_of_ble_eq_true rfl) (Nat.le_of_ble_eq_true rfl)
          ·
            refine x_aload_n Z dX4_drop_56 rfl rfl ?_
            refine x_getf (ci := 5) (j := 1) (C := RX4) (T := TX4) (N := 7) Z inX4g rfl (by decide) q1042 rfl dX4_drop_57 (by assumption) rfl ?_
            refine x_iload_n Z dX4_drop_60 rfl rfl ?_
            refine x_aaldR Z dX4_drop_61 hr3 (by decide) (by omega) (by omega) (hf3 t (by omega) (by omega)) ?_
            refine x_iload Z dX4_drop_62 rfl ?_
            refine x_aload_n Z dX4_drop_64 rfl rfl ?_
            refine x_getf (ci := 5) (j := 1) (C := RX4) (T := TX4) (N := 7) Z inX4g rfl (by decide) q1042 rfl dX4_drop_65 (by assumption) rfl ?_
            refine x_iload_n Z dX4_drop_68 rfl rfl ?_
            refine x_aaldR Z dX4_drop_69 hr3 (by decide) (by omega) (by omega) (hf3 t (by omega) (by omega)) ?_
            refine x_iload Z dX4_drop_70 rfl ?_
            refine x_iconst Z dX4_drop_72 ?_
            refine x_iadd Z dX4_drop_73 ?_
            refine x_iald Z dX4_drop_74 (by assumption) (by omega) (by omega) (by omega) ?_
            refine x_iast Z dX4_drop_75 (by assumption) (by omega) (by omega) (by omega) ?_
            refine x_iinc (L' := [(4, _), (3, _), (0, _), (1, _), (2, _)]) Z dX4_drop_76 rfl (Nat.le_of_ble_eq_true rfl) rfl ?_
            refine x_goto Z 45 dX4_drop_79 (by decide) ?_
            exact ih45 (i + 1) _ _ (by omega) ⟨by omega, by omega, hS.row (t := t) (p := i) (by omega) (by omega) (hC (i + 1)).1 (hC (i + 1)).2, e1, en, hK.row, fun j => (congrFun (if_pos rfl) j).trans (by { unfold uF; by_cases e : j = i; rw [if_pos e, hc (i + 1), if_neg (by omega), if_pos (by omega), e]; rw [if_neg e, hc j]; by_cases e2 : p ≤ j ∧ j < i; rw [if_pos e2, if_pos (by omega)]; rw [if_neg e2, if_neg (by omega)] }), hf0.set (rP_e (t := t) e1 (by omega) (by omega))⟩
      exact loop45 40 p _ _ (by omega) ⟨by omega, by omega, hS, e1, uF_s, hK, fun j => (if_neg (by omega)).symm, hf0⟩
    ·
      have hbad := c18
      refine x_iconst Z dX4_drop_21 ?_
      exact x_iret Z E (by first | exact ⟨_, rfl, rAct.bad1 hS hf0 hbad hc1⟩ | exact ⟨_, rfl, rAct.fin hK hS hf0 e1 o1 trivial (n' := S.2.1 t - 1) (D := fun j => if j < p then S.2.2.1 t j else S.2.2.1 t (j + 1)) rfl en (fun j j0 j1 => by { rw [hc j]; by_cases e : j < p; rw [if_neg (by omega)]; exact (if_pos e).symm; rw [if_pos (by omega)]; exact (if_neg e).symm })⟩) dX4_drop_22 (Nat.le_of_ble_eq_true rfl) (Nat.le_of_ble_eq_true rfl)
  refine x_aload_n Z dX4_drop_0 rfl rfl ?_
  refine x_aload_n Z dX4_drop_1 rfl rfl ?_
  refine x_iload_n Z dX4_drop_2 rfl rfl ?_
  refine x_iload_n Z dX4_drop_3 rfl rfl ?_
  refine x_callV (ci := 5) (C := RX4) (T := TX4) (N := 7) Z okX4_isPlace q1097 q1099 q14 rfl dX4_drop_4 (c_X4_isPlace h0 htr hS (by assumption) (by assumption)) hS.1 ⟨Nat.le_of_ble_eq_true rfl, Nat.le_of_ble_eq_true rfl, Nat.le_of_ble_eq_true rfl, Nat.le_of_ble_eq_true rfl⟩ rfl rfl (Nat.le_of_ble_eq_true rfl) (fun v9 w9 hR => ?_)
  obtain ⟨o9, rfl, e9, hq⟩ := hR
  refine x_ew e9 ?_
  simp only [Option.toList_some, Option.toList_none, List.cons_append, List.nil_append]
  refine x_ifb_ne Z 14 dX4_drop_7 (by decide) (fun c7 => ?_) (fun c7 => ?_)
  ·
    have f7 := bq_t hq c7
    refine x_ib false Z dX4_drop_14 (by decide) ?_
    exact join15 _ (by first | exact ⟨fun _ => by omega, fun _ => rfl⟩ | exact ⟨fun h => absurd h (by decide), fun h => (h (by omega)).elim⟩)
  ·
    have f7 := bq_f hq c7
    refine x_ib true Z dX4_drop_10 (by decide) ?_
    refine x_goto Z 15 dX4_drop_11 (by decide) ?_
    exact join15 _ (by first | exact ⟨fun _ => by omega, fun _ => rfl⟩ | exact ⟨fun h => absurd h (by decide), fun h => (h (by omega)).elim⟩)
abbrev rmc_X4_clear : Room := { frames := 2, cells := 0, slots := 0, locals := 43 }
set_option maxRecDepth 100000 in
theorem c_X4_clear {l : Launch} {s0 : State} {G : gK} {w : wd} (h0 : gS0 s0) (htr : l.stackTraces = false) {R : rA} {S : rM} {t : Int} (hS : rS G w R S) (hit : inr t) : gM l s0 G yX4_clear [Cond.code yX4_clear cX4_clear 3 (some .int)] rmc_X4_clear [rv R.1, iv t] w (fun v w' => ∃ z : Int, v = some (iv z) ∧ rAct G w R S (0 ≤ t ∧ t < 3) (True) (acClear S.2.1 S.2.2.1 t) w' z) (noX) := by
  refine g_of h0 htr (by decide +kernel) (Nat.le_of_ble_eq_true rfl) ?_
  intro b Z0 E
  have Z : gAm b l s0 G cX4_clear RX4 3 rmc_X4_clear := Z0
  refine x_el (L' := [(0, rv R.1), (1, iv t)]) rfl ?_
  obtain ⟨hr1, hr2, ⟨f3, hr3, hf3⟩, hr4, hr5, hr6⟩ := id hS
  have hf0 : fr (rP R S.1) w w := fr.rf
  have join13 : ∀ (c1 : Bool), (c1 = true ↔ ¬ (0 ≤ t ∧ t < 3)) → gX b s0 G (0) (0) 13 [(0, rv R.1), (1, iv t)] [iv (b2 c1), rv R.1] (w) := by
    intro c1 hv
    have hc1 := hv
    refine x_callV (ci := 5) (C := RX4) (T := TX4) (N := 7) Z okX4_isThrown_ q1106 q1108 q15 rfl dX4_clear_13 (c_X4_isThrown_ h0 htr hS) hS.1 ⟨Nat.le_of_ble_eq_true rfl, Nat.le_of_ble_eq_true rfl, Nat.le_of_ble_eq_true rfl, Nat.le_of_ble_eq_true rfl⟩ rfl rfl (Nat.le_of_ble_eq_true rfl) (fun v9 w9 hR => ?_)
    obtain ⟨rfl, hS, hf9⟩ := hR
    have hf0 := hf0.tr hf9
    simp only [Option.toList_some, Option.toList_none, List.cons_append, List.nil_append]
    refine x_ifb_eq Z 21 dX4_clear_16 (by decide) (fun c16 => ?_) (fun c16 => ?_)
    ·
      have ea := c16
      have o1 := bq_n hc1 ea
      subst ea
      obtain ⟨hr1, hr2, ⟨f3, hr3, hf3⟩, hr4, hr5, hr6⟩ := id hS
      obtain ⟨hrt, hn0, hn30, hC⟩ := hr5 t (by omega) (by omega)
      try dsimp only [rT] at hr1 hf3 hr4 hr5 hr6
      try dsimp only [rT] at hrt hn0 hn30 hC
      have en : (rT S (th2 false false)).2.1 t = S.2.1 t := rfl
      have e1 : (rT S (th2 false false)).1 = S.1 := rfl
      have hK : rK (rT S (th2 false false)) (rT S (th2 false false)) t := rK.rf
      refine x_aload_n Z dX4_clear_21 rfl rfl ?_
      refine x_getf (ci := 5) (j := 2) (C := RX4) (T := TX4) (N := 7) Z inX4g rfl (by decide) q1043 rfl dX4_clear_22 (by assumption) rfl ?_
      refine x_iload_n Z dX4_clear_25 rfl rfl ?_
      refine x_iald Z dX4_clear_26 (by assumption) (by omega) (by omega) (by omega) ?_
      refine x_istore_n (L' := [(2, _), (0, _), (1, _)]) Z dX4_clear_27 rfl (Nat.le_of_ble_eq_true rfl) rfl ?_
      refine x_aload_n Z dX4_clear_28 rfl rfl ?_
      refine x_getf (ci := 5) (j := 2) (C := RX4) (T := TX4) (N := 7) Z inX4g rfl (by decide) q1043 rfl dX4_clear_29 (by assumption) rfl ?_
      refine x_iload_n Z dX4_clear_32 rfl rfl ?_
      refine x_iconst Z dX4_clear_33 ?_
      refine x_iast Z dX4_clear_34 (by assumption) (by omega) (by omega) (by omega) ?_
      obtain ⟨hS, hf0⟩ := hS.sizf (t := t) (x := 0) hf0 (by omega) (by omega)
      have hK := hK.siz (x := 0)
      obtain ⟨hr1, hr2, ⟨f3, hr3, hf3⟩, hr4, hr5, hr6⟩ := id hS
      obtain ⟨hrt, hn0, hn30, hC⟩ := hr5 t (by omega) (by omega)
      try dsimp only [rT] at hr1 hf3 hr4 hr5 hr6
      try dsimp only [rT] at hrt hn0 hn30 hC
      refine x_aload_n Z dX4_clear_35 rfl rfl ?_
      refine x_iload_n Z dX4_clear_36 rfl rfl ?_
      refine x_callV (ci := 5) (C := RX4) (T := TX4) (N := 7) Z okX4_done q1089 q1091 q13 rfl dX4_clear_37 (c_X4_done h0 htr hS) hS.1 ⟨Nat.le_of_ble_eq_true rfl, Nat.le_of_ble_eq_true rfl, Nat.le_of_ble_eq_true rfl, Nat.le_of_ble_eq_true rfl⟩ rfl rfl (Nat.le_of_ble_eq_true rfl) (fun v9 w9 hR => ?_)
      obtain ⟨rfl, hS, hf9⟩ := hR
      have hf0 := hf0.trE e1 hf9
      simp only [Option.toList_some, Option.toList_none, List.cons_append, List.nil_append]
      exact x_iret Z E (by first | exact ⟨_, rfl, rAct.bad1 hS hf0 hbad hc1⟩ | exact ⟨_, rfl, rAct.fin hK hS hf0 e1 o1 trivial rfl uF_s tEq.rf⟩) dX4_clear_40 (Nat.le_of_ble_eq_true rfl) (Nat.le_of_ble_eq_true rfl)
    ·
      have hbad := c16
      refine x_iconst Z dX4_clear_19 ?_
      exact x_iret Z E (by first | exact ⟨_, rfl, rAct.bad1 hS hf0 hbad hc1⟩ | exact ⟨_, rfl, rAct.fin hK hS hf0 e1 o1 trivial rfl uF_s tEq.rf⟩) dX4_clear_20 (Nat.le_of_ble_eq_true rfl) (Nat.le_of_ble_eq_true rfl)
  refine x_aload_n Z dX4_clear_0 rfl rfl ?_
  refine x_iload_n Z dX4_clear_1 rfl rfl ?_
  refine x_callS Z okX4_is q1071 q1072 dX4_clear_2 (c_X4_is h0 htr (by assumption)) ⟨Nat.le_of_ble_eq_true rfl, Nat.le_of_ble_eq_true rfl, Nat.le_of_ble_eq_true rfl, Nat.le_of_ble_eq_true rfl⟩ rfl rfl (Nat.le_of_ble_eq_true rfl) (fun v9 w9 hR => ?_)
  obtain ⟨o9, rfl, e9, hq⟩ := hR
  refine x_ew e9 ?_
  simp only [Option.toList_some, Option.toList_none, List.cons_append, List.nil_append]
  refine x_ifb_ne Z 12 dX4_clear_5 (by decide) (fun c5 => ?_) (fun c5 => ?_)
  ·
    have f5 := bq_t hq c5
    refine x_ib false Z dX4_clear_12 (by decide) ?_
    exact join13 _ (by first | exact ⟨fun _ => by omega, fun _ => rfl⟩ | exact ⟨fun h => absurd h (by decide), fun h => (h (by omega)).elim⟩)
  ·
    have f5 := bq_f hq c5
    refine x_ib true Z dX4_clear_8 (by decide) ?_
    refine x_goto Z 13 dX4_clear_9 (by decide) ?_
    exact join13 _ (by first | exact ⟨fun _ => by omega, fun _ => rfl⟩ | exact ⟨fun h => absurd h (by decide), fun h => (h (by omega)).elim⟩)
abbrev rmc_X4_become : Room := { frames := 0, cells := 1, slots := 30, locals := 0 }
set_option maxRecDepth 100000 in
theorem c_X4_become {l : Launch} {s0 : State} {G : gK} {w : wd} (h0 : gS0 s0) (htr : l.stackTraces = false) {R : rA} {S : rM} {t : Int} {ra : Nat} {D : Int → Int} {m : Int} (hS : rS G w R S) (t0 : 0 ≤ t) (t3 : t < 3) (hra : w ra = some (eI G 30 D)) (hD : ∀ j, 0 ≤ D j ∧ D j ≤ 255) (m0 : 0 ≤ m) (m30 : m ≤ 30) : gM l s0 G yX4_become [Cond.code yX4_become cX4_become 6 none] rmc_X4_become [rv R.1, iv t, rv ra, iv m] w (fun v w' => v = none ∧ ∃ S' : rM, rV G w R S w' S' ∧ rK S S' t ∧ S'.2.1 t = m ∧ tEq m (S'.2.2.1 t) D) (noX) := by
  refine g_of h0 htr (by decide +kernel) (Nat.le_of_ble_eq_true rfl) ?_
  intro b Z0 E
  have Z : gAm b l s0 G cX4_become RX4 6 rmc_X4_become := Z0
  refine x_el (L' := [(0, rv R.1), (1, iv t), (2, rv ra), (3, iv m)]) rfl ?_
  obtain ⟨hr1, hr2, ⟨f3, hr3, hf3⟩, hr4, hr5, hr6⟩ := id hS
  obtain ⟨hrt, hn0, hn30, hC⟩ := hr5 t (by omega) (by omega)
  refine x_bipush Z dX4_become_0 (by decide +kernel) ?_
  refine x_newI Z (30) q83 (by first | rfl | omega) (by omega) (Nat.le_of_ble_eq_true rfl) (Nat.le_of_ble_eq_true rfl) dX4_become_2 (fun n2 hn2 => ?_)
  have hne : ∀ q, rP R S.1 q → ¬ q = n2 := fun q hq z => hS.nn q hq (by rw [z]; exact hn2)
  have hra2 : ra ≠ n2 := fun z => by { rw [z, hn2] at hra; cases hra }
  obtain ⟨w0, hw0⟩ : ∃ x, x = ws1 w n2 (eI G 30 (fun _ => 0)) := ⟨_, rfl⟩
  refine x_ew hw0.symm ?_
  have hf : fr (fun _ => False) w w0 := by { rw [hw0]; exact fr.rf.new hn2 }
  have hA : w0 n2 = some (eI G 30 (fun _ => 0)) := by { rw [hw0]; exact ws1_s }
  have hS := hS.frm hf (fun _ _ h => h)
  have hra := hf.at (fun h => h) hra
  refine x_astore (L' := [(4, _), (0, _), (1, _), (2, _), (3, _)]) Z dX4_become_4 (Nat.le_of_ble_eq_true rfl) rfl ?_
  refine x_iconst Z dX4_become_6 ?_
  refine x_istore (L' := [(5, _), (4, _), (0, _), (1, _), (2, _), (3, _)]) Z dX4_become_7 (Nat.le_of_ble_eq_true rfl) rfl ?_
  have loop9 : ∀ (fu : Nat) (i : Int) (D1 : Int → Int) (w1 : wd), m - i < (fu : Int) → (0 ≤ i ∧ i ≤ m ∧ rS G w1 R S ∧ w1 n2 = some (eI G 30 D1) ∧ (∀ j, 0 ≤ D1 j ∧ D1 j ≤ 255) ∧ w1 ra = some (eI G 30 D) ∧ (∀ j, 0 ≤ j → j < i → D1 j = D j) ∧ fr (fun _ => False) w w1) → gX b s0 G (1) (30) 9 [(5, iv i), (4, rv n2), (0, rv R.1), (1, iv t), (2, rv ra), (3, iv m)] [] (w1) := by
    intro fu; induction fu with
    | zero => intro i D1 w1 hm hv; exact absurd hm (by omega)
    | succ fu ih9 =>
      intro i D1 w1 hm hv
      obtain ⟨hi0, him, hS, hA, hD1, hra, hDD, hf⟩ := hv
      obtain ⟨hr1, hr2, ⟨f3, hr3, hf3⟩, hr4, hr5, hr6⟩ := id hS
      refine x_iload Z dX4_become_9 rfl ?_
      refine x_iload_n Z dX4_become_11 rfl rfl ?_
      refine x_icmp_ge Z 30 dX4_become_12 (by decide) ⟨by omega, by omega⟩ ⟨by omega, by omega⟩ (fun c12 => ?_) (fun c12 => ?_)
      ·
        refine x_aload_n Z dX4_become_30 rfl rfl ?_
        refine x_getf (ci := 5) (j := 1) (C := RX4) (T := TX4) (N := 7) Z inX4g rfl (by decide) q1042 rfl dX4_become_31 (by assumption) rfl ?_
        refine x_iload_n Z dX4_become_34 rfl rfl ?_
        refine x_aload Z dX4_become_35 rfl ?_
        refine x_aastR Z dX4_become_37 hr3 hA (by decide) (by omega) (by omega) ?_
        have hS2 := hS.rep (t := t) (by omega) (by omega) hr3 hA hD1 (fun i i0 i3 z => hne _ (Or.inr (Or.inr (Or.inr (Or.inr ⟨i, i0, i3, rfl⟩)))) z)
        have hS := hS2
        have hf0 := (hf.mono (Q := rP R S.1) (fun _ h => h.elim)).set (a := R.2.2.1) (e := eR G 3 (uQ f3 t (some n2))) (Or.inr (Or.inr (Or.inl rfl)))
        obtain ⟨hr1, hr2, ⟨f3, hr3, hf3⟩, hr4, hr5, hr6⟩ := id hS
        refine x_aload_n Z dX4_become_38 rfl rfl ?_
        refine x_getf (ci := 5) (j := 2) (C := RX4) (T := TX4) (N := 7) Z inX4g rfl (by decide) q1043 rfl dX4_become_39 (by assumption) rfl ?_
        refine x_iload_n Z dX4_become_42 rfl rfl ?_
        refine x_iload_n Z dX4_become_43 rfl rfl ?_
        refine x_iast Z dX4_become_44 (by assumption) (by omega) (by omega) (by omega) ?_
        have hS := hS.siz (t := t) (x := m) (by omega) (by omega)
        have hf0 := hf0.set (a := R.2.2.2) (e := eI G 3 (uF S.2.1 t m)) (Or.inr (Or.inr (Or.inr (Or.inl rfl))))
        have hx := fun x => rP_new (R := R) (ro := S.1) (t := t) (x := x) hn2
        exact x_vret Z E (⟨rfl, _, ⟨hS, rfl, hf0, hx⟩, (rK.rf.rep).siz, uF_s, fun j j0 j1 => (congrFun (if_pos rfl) j).trans (hDD j j0 (by omega))⟩) dX4_become_45 (Nat.le_of_ble_eq_true rfl) (Nat.le_of_ble_eq_true rfl)
      ·
        refine x_aload Z dX4_become_15 rfl ?_
        refine x_iload Z dX4_become_17 rfl ?_
        refine x_aload_n Z dX4_become_19 rfl rfl ?_
        refine x_iload Z dX4_become_20 rfl ?_
        refine x_iald Z dX4_become_22 (by assumption) (by omega) (by omega) (by omega) ?_
        refine x_iast Z dX4_become_23 (by assumption) (by omega) (by omega) (by omega) ?_
        refine x_iinc (L' := [(5, _), (4, _), (0, _), (1, _), (2, _), (3, _)]) Z dX4_become_24 rfl (Nat.le_of_ble_eq_true rfl) rfl ?_
        refine x_goto Z 9 dX4_become_27 (by decide) ?_
        exact ih9 (i + 1) _ _ (by omega) ⟨by omega, by omega, hS.frm (P := fun q => q = n2) (fr.rf.set rfl) hne, ws1_s, uF_rng hD1 (hD i).1 (hD i).2, (ws1_n hra2).trans hra, fun j j0 j1 => (by { unfold uF; by_cases e : j = i; rw [if_pos e, e]; rw [if_neg e]; exact hDD j j0 (by omega) }), hf.set0 hn2⟩
  exact loop9 40 0 _ _ (by omega) ⟨by omega, by omega, hS, hA, fun j => ⟨Int.le_refl 0, by exact (by decide : (0 : Int) ≤ 255)⟩, hra, fun j j0 j1 => absurd j1 (by omega), hf⟩
abbrev rmc_X4_copy : Room := { frames := 2, cells := 1, slots := 30, locals := 43 }
set_option maxRecDepth 100000 in
theorem c_X4_copy {l : Launch} {s0 : State} {G : gK} {w : wd} (h0 : gS0 s0) (htr : l.stackTraces = false) {R : rA} {S : rM} {t : Int} {u : Int} (hS : rS G w R S) (hit : inr t) (hiu : inr u) : gM l s0 G yX4_copy [Cond.code yX4_copy cX4_copy 3 (some .int)] rmc_X4_copy [rv R.1, iv t, iv u] w (fun v w' => ∃ z : Int, v = some (iv z) ∧ rAct G w R S ((0 ≤ t ∧ t < 3) ∧ 0 ≤ u ∧ u < 3) (True) (acCopy S.2.1 S.2.2.1 t u) w' z) (noX) := by
  refine g_of h0 htr (by decide +kernel) (Nat.le_of_ble_eq_true rfl) ?_
  intro b Z0 E
  have Z : gAm b l s0 G cX4_copy RX4 3 rmc_X4_copy := Z0
  refine x_el (L' := [(0, rv R.1), (1, iv t), (2, iv u)]) rfl ?_
  obtain ⟨hr1, hr2, ⟨f3, hr3, hf3⟩, hr4, hr5, hr6⟩ := id hS
  have hf0 : fr (rP R S.1) w w := fr.rf
  have join20 : ∀ (c1 : Bool), (c1 = true ↔ ¬ ((0 ≤ t ∧ t < 3) ∧ 0 ≤ u ∧ u < 3)) → gX b s0 G (0) (0) 20 [(0, rv R.1), (1, iv t), (2, iv u)] [iv (b2 c1), rv R.1] (w) := by
    intro c1 hv
    have hc1 := hv
    refine x_callV (ci := 5) (C := RX4) (T := TX4) (N := 7) Z okX4_isThrown_ q1106 q1108 q15 rfl dX4_copy_20 (c_X4_isThrown_ h0 htr hS) hS.1 ⟨Nat.le_of_ble_eq_true rfl, Nat.le_of_ble_eq_true rfl, Nat.le_of_ble_eq_true rfl, Nat.le_of_ble_eq_true rfl⟩ rfl rfl (Nat.le_of_ble_eq_true rfl) (fun v9 w9 hR => ?_)
    obtain ⟨rfl, hS, hf9⟩ := hR
    have hf0 := hf0.tr hf9
    simp only [Option.toList_some, Option.toList_none, List.cons_append, List.nil_append]
    refine x_ifb_eq Z 28 dX4_copy_23 (by decide) (fun c23 => ?_) (fun c23 => ?_)
    ·
      have ea := c23
      have o1 := bq_n hc1 ea
      subst ea
      obtain ⟨hr1, hr2, ⟨f3, hr3, hf3⟩, hr4, hr5, hr6⟩ := id hS
      obtain ⟨hrt, hn0, hn30, hC⟩ := hr5 t (by omega) (by omega)
      try dsimp only [rT] at hr1 hf3 hr4 hr5 hr6
      try dsimp only [rT] at hrt hn0 hn30 hC
      have en : (rT S (th2 false false)).2.1 t = S.2.1 t := rfl
      have e1 : (rT S (th2 false false)).1 = S.1 := rfl
      have hK : rK (rT S (th2 false false)) (rT S (th2 false false)) t := rK.rf
      have hV0 : rV G w R S w9 (rT S (th2 false false)) := ⟨hS, rfl, hf0, fun x hx => Or.inl hx⟩
      obtain ⟨hru, hm0, hm30, hD⟩ := hr5 u (by omega) (by omega)
      try dsimp only [rT] at hru hm0 hm30 hD
      refine x_aload_n Z dX4_copy_28 rfl rfl ?_
      refine x_iload_n Z dX4_copy_29 rfl rfl ?_
      refine x_aload_n Z dX4_copy_30 rfl rfl ?_
      refine x_getf (ci := 5) (j := 1) (C := RX4) (T := TX4) (N := 7) Z inX4g rfl (by decide) q1042 rfl dX4_copy_31 (by assumption) rfl ?_
      refine x_iload_n Z dX4_copy_34 rfl rfl ?_
      refine x_aaldR Z dX4_copy_35 hr3 (by decide) (by omega) (by omega) (hf3 t (by omega) (by omega)) ?_
      refine x_aload_n Z dX4_copy_36 rfl rfl ?_
      refine x_getf (ci := 5) (j := 2) (C := RX4) (T := TX4) (N := 7) Z inX4g rfl (by decide) q1043 rfl dX4_copy_37 (by assumption) rfl ?_
      refine x_iload_n Z dX4_copy_40 rfl rfl ?_
      refine x_iald Z dX4_copy_41 (by assumption) (by omega) (by omega) (by omega) ?_
      refine x_callV (ci := 5) (C := RX4) (T := TX4) (N := 7) Z okX4_become q1118 q1120 q16 rfl dX4_copy_42 (c_X4_become h0 htr hS (by omega) (by omega) hrt hC hn0 hn30) hS.1 ⟨Nat.le_of_ble_eq_true rfl, Nat.le_of_ble_eq_true rfl, Nat.le_of_ble_eq_true rfl, Nat.le_of_ble_eq_true rfl⟩ rfl rfl (Nat.le_of_ble_eq_true rfl) (fun v9 w9 hR => ?_)
      obtain ⟨rfl, S9, hV9, hK9, hn9, hD9⟩ := hR
      simp only [Option.toList_some, Option.toList_none, List.cons_append, List.nil_append]
      have hV := rV.tr hV0 hV9
      have hS := hV9.1
      obtain ⟨hr1, hr2, ⟨f3, hr3, hf3⟩, hr4, hr5, hr6⟩ := id hS
      refine x_aload_n Z dX4_copy_45 rfl rfl ?_
      refine x_aload_n Z dX4_copy_46 rfl rfl ?_
      refine x_getf (ci := 5) (j := 2) (C := RX4) (T := TX4) (N := 7) Z inX4g rfl (by decide) q1043 rfl dX4_copy_47 (by assumption) rfl ?_
      refine x_iload_n Z dX4_copy_50 rfl rfl ?_
      refine x_iald Z dX4_copy_51 (by assumption) (by omega) (by omega) (by omega) ?_
      refine x_callV (ci := 5) (C := RX4) (T := TX4) (N := 7) Z okX4_done q1089 q1091 q13 rfl dX4_copy_52 (c_X4_done h0 htr hS) hS.1 ⟨Nat.le_of_ble_eq_true rfl, Nat.le_of_ble_eq_true rfl, Nat.le_of_ble_eq_true rfl, Nat.le_of_ble_eq_true rfl⟩ rfl rfl (Nat.le_of_ble_eq_true rfl) (fun v9 w9 hR => ?_)
      obtain ⟨rfl, hS, hf9⟩ := hR
      simp only [Option.toList_some, Option.toList_none, List.cons_append, List.nil_append]
      exact x_iret Z E (⟨_, rfl, rAct.finV hK9 hV hS hf9 o1 trivial (by rw [hn9]; rfl) hn9 hD9⟩) dX4_copy_55 (Nat.le_of_ble_eq_true rfl) (Nat.le_of_ble_eq_true rfl)
    ·
      have hbad := c23
      refine x_iconst Z dX4_copy_26 ?_
      exact x_iret Z E (by first | exact ⟨_, rfl, rAct.bad1 hS hf0 hbad hc1⟩ | exact ⟨_, rfl, rAct.bad1 hS hf0 hbad hc1⟩) dX4_copy_27 (Nat.le_of_ble_eq_true rfl) (Nat.le_of_ble_eq_true rfl)
  refine x_aload_n Z dX4_copy_0 rfl rfl ?_
  refine x_iload_n Z dX4_copy_1 rfl rfl ?_
  refine x_callS Z okX4_is q1071 q1072 dX4_copy_2 (c_X4_is h0 htr (by assumption)) ⟨Nat.le_of_ble_eq_true rfl, Nat.le_of_ble_eq_true rfl, Nat.le_of_ble_eq_true rfl, Nat.le_of_ble_eq_true rfl⟩ rfl rfl (Nat.le_of_ble_eq_true rfl) (fun v9 w9 hR => ?_)
  obtain ⟨o9, rfl, e9, hq⟩ := hR
  refine x_ew e9 ?_
  simp only [Option.toList_some, Option.toList_none, List.cons_append, List.nil_append]
  refine x_ifb_eq Z 15 dX4_copy_5 (by decide) (fun c5 => ?_) (fun c5 => ?_)
  ·
    have f5 := bq_f hq c5
    refine x_ib true Z dX4_copy_15 (by decide) ?_
    refine x_goto Z 20 dX4_copy_16 (by decide) ?_
    exact join20 _ (by first | exact ⟨fun _ => by omega, fun _ => rfl⟩ | exact ⟨fun h => absurd h (by decide), fun h => (h (by omega)).elim⟩)
  ·
    have f5 := bq_t hq c5
    refine x_iload_n Z dX4_copy_8 rfl rfl ?_
    refine x_callS Z okX4_is q1071 q1072 dX4_copy_9 (c_X4_is h0 htr (by assumption)) ⟨Nat.le_of_ble_eq_true rfl, Nat.le_of_ble_eq_true rfl, Nat.le_of_ble_eq_true rfl, Nat.le_of_ble_eq_true rfl⟩ rfl rfl (Nat.le_of_ble_eq_true rfl) (fun v9 w9 hR => ?_)
    obtain ⟨o9, rfl, e9, hq⟩ := hR
    refine x_ew e9 ?_
    simp only [Option.toList_some, Option.toList_none, List.cons_append, List.nil_append]
    refine x_ifb_ne Z 19 dX4_copy_12 (by decide) (fun c12 => ?_) (fun c12 => ?_)
    ·
      have f12 := bq_t hq c12
      refine x_ib false Z dX4_copy_19 (by decide) ?_
      exact join20 _ (by first | exact ⟨fun _ => by omega, fun _ => rfl⟩ | exact ⟨fun h => absurd h (by decide), fun h => (h (by omega)).elim⟩)
    ·
      have f12 := bq_f hq c12
      refine x_ib true Z dX4_copy_15 (by decide) ?_
      refine x_goto Z 20 dX4_copy_16 (by decide) ?_
      exact join20 _ (by first | exact ⟨fun _ => by omega, fun _ => rfl⟩ | exact ⟨fun h => absurd h (by decide), fun h => (h (by omega)).elim⟩)
abbrev rmc_X4_join : Room := { frames := 2, cells := 0, slots := 0, locals := 43 }
set_option maxRecDepth 100000 in
theorem c_X4_join {l : Launch} {s0 : State} {G : gK} {w : wd} (h0 : gS0 s0) (htr : l.stackTraces = false) {R : rA} {S : rM} {t : Int} {u : Int} (hS : rS G w R S) (hit : inr t) (hiu : inr u) : gM l s0 G yX4_join [Cond.code yX4_join cX4_join 5 (some .int)] rmc_X4_join [rv R.1, iv t, iv u] w (fun v w' => ∃ z : Int, v = some (iv z) ∧ rAct G w R S ((0 ≤ t ∧ t < 3) ∧ 0 ≤ u ∧ u < 3) (True) (acJoin S.2.1 S.2.2.1 t u) w' z) (noX) := by
  refine g_of h0 htr (by decide +kernel) (Nat.le_of_ble_eq_true rfl) ?_
  intro b Z0 E
  have Z : gAm b l s0 G cX4_join RX4 5 rmc_X4_join := Z0
  refine x_el (L' := [(0, rv R.1), (1, iv t), (2, iv u)]) rfl ?_
  obtain ⟨hr1, hr2, ⟨f3, hr3, hf3⟩, hr4, hr5, hr6⟩ := id hS
  have hf0 : fr (rP R S.1) w w := fr.rf
  have join20 : ∀ (c1 : Bool), (c1 = true ↔ ¬ ((0 ≤ t ∧ t < 3) ∧ 0 ≤ u ∧ u < 3)) → gX b s0 G (0) (0) 20 [(0, rv R.1), (1, iv t), (2, iv u)] [iv (b2 c1), rv R.1] (w) := by
    intro c1 hv
    have hc1 := hv
    refine x_callV (ci := 5) (C := RX4) (T := TX4) (N := 7) Z okX4_isThrown_ q1106 q1108 q15 rfl dX4_join_20 (c_X4_isThrown_ h0 htr hS) hS.1 ⟨Nat.le_of_ble_eq_true rfl, Nat.le_of_ble_eq_true rfl, Nat.le_of_ble_eq_true rfl, Nat.le_of_ble_eq_true rfl⟩ rfl rfl (Nat.le_of_ble_eq_true rfl) (fun v9 w9 hR => ?_)
    obtain ⟨rfl, hS, hf9⟩ := hR
    have hf0 := hf0.tr hf9
    simp only [Option.toList_some, Option.toList_none, List.cons_append, List.nil_append]
    refine x_ifb_eq Z 28 dX4_join_23 (by decide) (fun c23 => ?_) (fun c23 => ?_)
    ·
      have ea := c23
      have o1 := bq_n hc1 ea
      subst ea
      obtain ⟨hr1, hr2, ⟨f3, hr3, hf3⟩, hr4, hr5, hr6⟩ := id hS
      obtain ⟨hrt, hn0, hn30, hC⟩ := hr5 t (by omega) (by omega)
      try dsimp only [rT] at hr1 hf3 hr4 hr5 hr6
      try dsimp only [rT] at hrt hn0 hn30 hC
      have en : (rT S (th2 false false)).2.1 t = S.2.1 t := rfl
      have e1 : (rT S (th2 false false)).1 = S.1 := rfl
      have hK : rK (rT S (th2 false false)) (rT S (th2 false false)) t := rK.rf
      obtain ⟨hru, hm0, hm30, hD⟩ := hr5 u (by omega) (by omega)
      try dsimp only [rT] at hru hm0 hm30 hD
      have em : (rT S (th2 false false)).2.1 u = S.2.1 u := rfl
      refine x_aload_n Z dX4_join_28 rfl rfl ?_
      refine x_getf (ci := 5) (j := 2) (C := RX4) (T := TX4) (N := 7) Z inX4g rfl (by decide) q1043 rfl dX4_join_29 (by assumption) rfl ?_
      refine x_iload_n Z dX4_join_32 rfl rfl ?_
      refine x_iald Z dX4_join_33 (by assumption) (by omega) (by omega) (by omega) ?_
      refine x_istore_n (L' := [(3, _), (0, _), (1, _), (2, _)]) Z dX4_join_34 rfl (Nat.le_of_ble_eq_true rfl) rfl ?_
      refine x_aload_n Z dX4_join_35 rfl rfl ?_
      refine x_getf (ci := 5) (j := 2) (C := RX4) (T := TX4) (N := 7) Z inX4g rfl (by decide) q1043 rfl dX4_join_36 (by assumption) rfl ?_
      refine x_iload_n Z dX4_join_39 rfl rfl ?_
      refine x_iald Z dX4_join_40 (by assumption) (by omega) (by omega) (by omega) ?_
      refine x_iload_n Z dX4_join_41 rfl rfl ?_
      refine x_iadd Z dX4_join_42 ?_
      refine x_bipush Z dX4_join_43 (by decide +kernel) ?_
      refine x_icmp_le Z 53 dX4_join_45 (by decide) ⟨by omega, by omega⟩ ⟨by omega, by omega⟩ (fun c45 => ?_) (fun c45 => ?_)
      ·
        refine x_iconst Z dX4_join_53 ?_
        refine x_istore (L' := [(4, _), (3, _), (0, _), (1, _), (2, _)]) Z dX4_join_54 (Nat.le_of_ble_eq_true rfl) rfl ?_
        have loop56 : ∀ (fu : Nat) (i : Int) (S1 : rM) (w1 : wd), S.2.1 u - i < (fu : Int) → (0 ≤ i ∧ i ≤ S.2.1 u ∧ rS G w1 R S1 ∧ S1.1 = S.1 ∧ S1.2.1 t = S.2.1 t ∧ rK (rT S (th2 false false)) S1 t ∧ S1.2.2.1 t = tapp (S.2.1 t) i (S.2.2.1 u) (S.2.2.1 t) ∧ fr (rP R S.1) w w1) → gX b s0 G (0) (0) 56 [(4, iv i), (3, iv (S.2.1 u)), (0, rv R.1), (1, iv t), (2, iv u)] [] (w1) := by
          intro fu; induction fu with
          | zero => intro i S1 w1 hm hv; exact absurd hm (by omega)
          | succ fu ih56 =>
            intro i S1 w1 hm hv
            obtain ⟨hi0, hin, hS, e1, en, hK, hc, hf0⟩ := hv
            obtain ⟨hr1, hr2, ⟨f3, hr3, hf3⟩, hr4, hr5, hr6⟩ := id hS
            obtain ⟨hrt, hn0, hn30, hC⟩ := hr5 t (by omega) (by omega)
            try dsimp only [rT] at hr1 hf3 hr4 hr5 hr6
            try dsimp only [rT] at hrt hn0 hn30 hC
            obtain ⟨hru, hm0, hm30, hD⟩ := hr5 u (by omega) (by omega)
            try dsimp only [rT] at hru hm0 hm30 hD
            refine x_iload Z dX4_join_56 rfl ?_
            refine x_iload_n Z dX4_join_58 rfl rfl ?_
            refine x_icmp_ge Z 93 dX4_join_59 (by decide) ⟨by omega, by omega⟩ ⟨by omega, by omega⟩ (fun c59 => ?_) (fun c59 => ?_)
            ·
              refine x_aload_n Z dX4_join_93 rfl rfl ?_
              refine x_getf (ci := 5) (j := 2) (C := RX4) (T := TX4) (N := 7) Z inX4g rfl (by decide) q1043 rfl dX4_join_94 (by assumption) rfl ?_
              refine x_iload_n Z dX4_join_97 rfl rfl ?_
              refine x_dup2 Z dX4_join_98 rfl rfl ?_
              refine x_iald Z dX4_join_99 (by assumption) (by omega) (by omega) (by omega) ?_
              refine x_iload_n Z dX4_join_100 rfl rfl ?_
              refine x_iadd Z dX4_join_101 ?_
              refine x_iast Z dX4_join_102 (by assumption) (by omega) (by omega) (by omega) ?_
              obtain ⟨hS, hf0⟩ := hS.sizf (t := t) (x := S1.2.1 t + S.2.1 u) hf0 (by omega) (by omega)
              have hK := hK.siz (x := S1.2.1 t + S.2.1 u)
              obtain ⟨hr1, hr2, ⟨f3, hr3, hf3⟩, hr4, hr5, hr6⟩ := id hS
              obtain ⟨hrt, hn0, hn30, hC⟩ := hr5 t (by omega) (by omega)
              try dsimp only [rT] at hr1 hf3 hr4 hr5 hr6
              try dsimp only [rT] at hrt hn0 hn30 hC
              refine x_aload_n Z dX4_join_103 rfl rfl ?_
              refine x_aload_n Z dX4_join_104 rfl rfl ?_
              refine x_getf (ci := 5) (j := 2) (C := RX4) (T := TX4) (N := 7) Z inX4g rfl (by decide) q1043 rfl dX4_join_105 (by assumption) rfl ?_
              refine x_iload_n Z dX4_join_108 rfl rfl ?_
              refine x_iald Z dX4_join_109 (by assumption) (by omega) (by omega) (by omega) ?_
              refine x_callV (ci := 5) (C := RX4) (T := TX4) (N := 7) Z okX4_done q1089 q1091 q13 rfl dX4_join_110 (c_X4_done h0 htr hS) hS.1 ⟨Nat.le_of_ble_eq_true rfl, Nat.le_of_ble_eq_true rfl, Nat.le_of_ble_eq_true rfl, Nat.le_of_ble_eq_true rfl⟩ rfl rfl (Nat.le_of_ble_eq_true rfl) (fun v9 w9 hR => ?_)
              obtain ⟨rfl, hS, hf9⟩ := hR
              have hf0 := hf0.trE e1 hf9
              simp only [Option.toList_some, Option.toList_none, List.cons_append, List.nil_append]
              exact x_iret Z E (by first | exact ⟨_, rfl, rAct.bad1 hS hf0 hbad hc1⟩ | exact ⟨_, rfl, rAct.fin hK hS hf0 e1 o1 trivial (n' := S.2.1 t + S.2.1 u) (D := tapp (S.2.1 t) (S.2.1 u) (S.2.2.1 u) (S.2.2.1 t)) (by unfold acJoin; rw [if_neg (by omega), uF_s, en]) (uF_s.trans (by rw [en])) (fun j _ _ => by { show S1.2.2.1 t j = _; rw [hc, show i = S.2.1 u by omega] })⟩) dX4_join_113 (Nat.le_of_ble_eq_true rfl) (Nat.le_of_ble_eq_true rfl)
            ·
              refine x_aload_n Z dX4_join_62 rfl rfl ?_
              refine x_getf (ci := 5) (j := 1) (C := RX4) (T := TX4) (N := 7) Z inX4g rfl (by decide) q1042 rfl dX4_join_63 (by assumption) rfl ?_
              refine x_iload_n Z dX4_join_66 rfl rfl ?_
              refine x_aaldR Z dX4_join_67 hr3 (by decide) (by omega) (by omega) (hf3 t (by omega) (by omega)) ?_
              refine x_aload_n Z dX4_join_68 rfl rfl ?_
              refine x_getf (ci := 5) (j := 2) (C := RX4) (T := TX4) (N := 7) Z inX4g rfl (by decide) q1043 rfl dX4_join_69 (by assumption) rfl ?_
              refine x_iload_n Z dX4_join_72 rfl rfl ?_
              refine x_iald Z dX4_join_73 (by assumption) (by omega) (by omega) (by omega) ?_
              refine x_iload Z dX4_join_74 rfl ?_
              refine x_iadd Z dX4_join_76 ?_
              refine x_aload_n Z dX4_join_77 rfl rfl ?_
              refine x_getf (ci := 5) (j := 1) (C := RX4) (T := TX4) (N := 7) Z inX4g rfl (by decide) q1042 rfl dX4_join_78 (by assumption) rfl ?_
              refine x_iload_n Z dX4_join_81 rfl rfl ?_
              refine x_aaldR Z dX4_join_82 hr3 (by decide) (by omega) (by omega) (hf3 u (by omega) (by omega)) ?_
              refine x_iload Z dX4_join_83 rfl ?_
              refine x_iald Z dX4_join_85 (by assumption) (by omega) (by omega) (by omega) ?_
              refine x_iast Z dX4_join_86 (by assumption) (by omega) (by omega) (by omega) ?_
              refine x_iinc (L' := [(4, _), (3, _), (0, _), (1, _), (2, _)]) Z dX4_join_87 rfl (Nat.le_of_ble_eq_true rfl) rfl ?_
              refine x_goto Z 56 dX4_join_90 (by decide) ?_
              have hDi : S1.2.2.1 u i = S.2.2.1 u i := by { by_cases e : u = t; subst e; rw [hc]; exact tapp_o (by omega); exact congrFun (hK.1 u e).2 i }
              exact ih56 (i + 1) _ _ (by omega) ⟨by omega, by omega, hS.row (t := t) (p := S1.2.1 t + i) (by omega) (by omega) (hD i).1 (hD i).2, e1, en, hK.row, (if_pos rfl).trans (by rw [hc, en]; exact tapp_s (by omega) hDi), hf0.set (rP_e (t := t) e1 (by omega) (by omega))⟩
        exact loop56 40 0 _ _ (by omega) ⟨by omega, by omega, hS, e1, en, hK, tapp_0.symm, hf0⟩
      ·
        refine x_aload_n Z dX4_join_48 rfl rfl ?_
        refine x_callV (ci := 5) (C := RX4) (T := TX4) (N := 7) Z okX4_no q1085 q1087 q12 rfl dX4_join_49 (c_X4_no h0 htr hS) hS.1 ⟨Nat.le_of_ble_eq_true rfl, Nat.le_of_ble_eq_true rfl, Nat.le_of_ble_eq_true rfl, Nat.le_of_ble_eq_true rfl⟩ rfl rfl (Nat.le_of_ble_eq_true rfl) (fun v9 w9 hR => ?_)
        obtain ⟨rfl, hS, hf9⟩ := hR
        have hf0 := hf0.trE e1 hf9
        simp only [Option.toList_some, Option.toList_none, List.cons_append, List.nil_append]
        exact x_iret Z E (⟨_, rfl, rAct.no (t := t) hS hf0 o1 trivial (by unfold acJoin; rw [if_pos (by omega)])⟩) dX4_join_52 (Nat.le_of_ble_eq_true rfl) (Nat.le_of_ble_eq_true rfl)
    ·
      have hbad := c23
      refine x_iconst Z dX4_join_26 ?_
      exact x_iret Z E (by first | exact ⟨_, rfl, rAct.bad1 hS hf0 hbad hc1⟩ | exact ⟨_, rfl, rAct.fin hK hS hf0 e1 o1 trivial (n' := S.2.1 t + S.2.1 u) (D := tapp (S.2.1 t) (S.2.1 u) (S.2.2.1 u) (S.2.2.1 t)) (by unfold acJoin; rw [if_neg (by omega), uF_s, en]) (uF_s.trans (by rw [en])) (fun j _ _ => by { show S1.2.2.1 t j = _; rw [hc, show i = S.2.1 u by omega] })⟩) dX4_join_27 (Nat.le_of_ble_eq_true rfl) (Nat.le_of_ble_eq_true rfl)
  refine x_aload_n Z dX4_join_0 rfl rfl ?_
  refine x_iload_n Z dX4_join_1 rfl rfl ?_
  refine x_callS Z okX4_is q1071 q1072 dX4_join_2 (c_X4_is h0 htr (by assumption)) ⟨Nat.le_of_ble_eq_true rfl, Nat.le_of_ble_eq_true rfl, Nat.le_of_ble_eq_true rfl, Nat.le_of_ble_eq_true rfl⟩ rfl rfl (Nat.le_of_ble_eq_true rfl) (fun v9 w9 hR => ?_)
  obtain ⟨o9, rfl, e9, hq⟩ := hR
  refine x_ew e9 ?_
  simp only [Option.toList_some, Option.toList_none, List.cons_append, List.nil_append]
  refine x_ifb_eq Z 15 dX4_join_5 (by decide) (fun c5 => ?_) (fun c5 => ?_)
  ·
    have f5 := bq_f hq c5
    refine x_ib true Z dX4_join_15 (by decide) ?_
    refine x_goto Z 20 dX4_join_16 (by decide) ?_
    exact join20 _ (by first | exact ⟨fun _ => by omega, fun _ => rfl⟩ | exact ⟨fun h => absurd h (by decide), fun h => (h (by omega)).elim⟩)
  ·
    have f5 := bq_t hq c5
    refine x_iload_n Z dX4_join_8 rfl rfl ?_
    refine x_callS Z okX4_is q1071 q1072 dX4_join_9 (c_X4_is h0 htr (by assumption)) ⟨Nat.le_of_ble_eq_true rfl, Nat.le_of_ble_eq_true rfl, Nat.le_of_ble_eq_true rfl, Nat.le_of_ble_eq_true rfl⟩ rfl rfl (Nat.le_of_ble_eq_true rfl) (fun v9 w9 hR => ?_)
    obtain ⟨o9, rfl, e9, hq⟩ := hR
    refine x_ew e9 ?_
    simp only [Option.toList_some, Option.toList_none, List.cons_append, List.nil_append]
    refine x_ifb_ne Z 19 dX4_join_12 (by decide) (fun c12 => ?_) (fun c12 => ?_)
    ·
      have f12 := bq_t hq c12
      refine x_ib false Z dX4_join_19 (by decide) ?_
      exact join20 _ (by first | exact ⟨fun _ => by omega, fun _ => rfl⟩ | exact ⟨fun h => absurd h (by decide), fun h => (h (by omega)).elim⟩)
    ·
      have f12 := bq_f hq c12
      refine x_ib true Z dX4_join_15 (by decide) ?_
      refine x_goto Z 20 dX4_join_16 (by decide) ?_
      exact join20 _ (by first | exact ⟨fun _ => by omega, fun _ => rfl⟩ | exact ⟨fun h => absurd h (by decide), fun h => (h (by omega)).elim⟩)
abbrev rmc_X4_turn : Room := { frames := 2, cells := 1, slots := 30, locals := 43 }
set_option maxRecDepth 100000 in
theorem c_X4_turn {l : Launch} {s0 : State} {G : gK} {w : wd} (h0 : gS0 s0) (htr : l.stackTraces = false) {R : rA} {S : rM} {t : Int} (hS : rS G w R S) (hit : inr t) : gM l s0 G yX4_turn [Cond.code yX4_turn cX4_turn 5 (some .int)] rmc_X4_turn [rv R.1, iv t] w (fun v w' => ∃ z : Int, v = some (iv z) ∧ rAct G w R S (0 ≤ t ∧ t < 3) (True) (acTurn S.2.1 S.2.2.1 t) w' z) (noX) := by
  refine g_of h0 htr (by decide +kernel) (Nat.le_of_ble_eq_true rfl) ?_
  intro b Z0 E
  have Z : gAm b l s0 G cX4_turn RX4 5 rmc_X4_turn := Z0
  refine x_el (L' := [(0, rv R.1), (1, iv t)]) rfl ?_
  obtain ⟨hr1, hr2, ⟨f3, hr3, hf3⟩, hr4, hr5, hr6⟩ := id hS
  have hf0 : fr (rP R S.1) w w := fr.rf
  have join13 : ∀ (c1 : Bool), (c1 = true ↔ ¬ (0 ≤ t ∧ t < 3)) → gX b s0 G (0) (0) 13 [(0, rv R.1), (1, iv t)] [iv (b2 c1), rv R.1] (w) := by
    intro c1 hv
    have hc1 := hv
    refine x_callV (ci := 5) (C := RX4) (T := TX4) (N := 7) Z okX4_isThrown_ q1106 q1108 q15 rfl dX4_turn_13 (c_X4_isThrown_ h0 htr hS) hS.1 ⟨Nat.le_of_ble_eq_true rfl, Nat.le_of_ble_eq_true rfl, Nat.le_of_ble_eq_true rfl, Nat.le_of_ble_eq_true rfl⟩ rfl rfl (Nat.le_of_ble_eq_true rfl) (fun v9 w9 hR => ?_)
    obtain ⟨rfl, hS, hf9⟩ := hR
    have hf0 := hf0.tr hf9
    simp only [Option.toList_some, Option.toList_none, List.cons_append, List.nil_append]
    refine x_ifb_eq Z 21 dX4_turn_16 (by decide) (fun c16 => ?_) (fun c16 => ?_)
    ·
      have ea := c16
      have o1 := bq_n hc1 ea
      subst ea
      obtain ⟨hr1, hr2, ⟨f3, hr3, hf3⟩, hr4, hr5, hr6⟩ := id hS
      obtain ⟨hrt, hn0, hn30, hC⟩ := hr5 t (by omega) (by omega)
      try dsimp only [rT] at hr1 hf3 hr4 hr5 hr6
      try dsimp only [rT] at hrt hn0 hn30 hC
      have en : (rT S (th2 false false)).2.1 t = S.2.1 t := rfl
      have e1 : (rT S (th2 false false)).1 = S.1 := rfl
      have hK : rK (rT S (th2 false false)) (rT S (th2 false false)) t := rK.rf
      refine x_bipush Z dX4_turn_21 (by decide +kernel) ?_
      refine x_newI Z (30) q83 (by first | rfl | omega) (by omega) (Nat.le_of_ble_eq_true rfl) (Nat.le_of_ble_eq_true rfl) dX4_turn_23 (fun n23 hn23 => ?_)
      have hne : ∀ q, rP R (rT S (th2 false false)).1 q → ¬ q = n23 := fun q hq z => hS.nn q hq (by rw [z]; exact hn23)
      have hnw : w n23 = none := hf0.none hn23 (fun z => hne _ z rfl)
      refine x_gen fun w0 hw0 => ?_
      have hS := hS.frm (w' := w0) (P := fun q => q = n23) (by rw [hw0]; exact fr.rf.set rfl) hne
      have hA : w0 n23 = some (eI G 30 (fun _ => 0)) := by { rw [hw0]; exact ws1_s }
      have hf0 : fr (rP R S.1) w w0 := by { rw [hw0]; exact hf0.set0 hnw }
      obtain ⟨hr1, hr2, ⟨f3, hr3, hf3⟩, hr4, hr5, hr6⟩ := id hS
      obtain ⟨hrt, hn0, hn30, hC⟩ := hr5 t (by omega) (by omega)
      try dsimp only [rT] at hr1 hf3 hr4 hr5 hr6
      try dsimp only [rT] at hrt hn0 hn30 hC
      refine x_astore_n (L' := [(2, _), (0, _), (1, _)]) Z dX4_turn_25 rfl (Nat.le_of_ble_eq_true rfl) rfl ?_
      refine x_iconst Z dX4_turn_26 ?_
      refine x_istore_n (L' := [(3, _), (2, _), (0, _), (1, _)]) Z dX4_turn_27 rfl (Nat.le_of_ble_eq_true rfl) rfl ?_
      refine x_iconst Z dX4_turn_28 ?_
      refine x_istore (L' := [(4, _), (3, _), (2, _), (0, _), (1, _)]) Z dX4_turn_29 (Nat.le_of_ble_eq_true rfl) rfl ?_
      have loop31 : ∀ (fu : Nat) (i o : Int) (D1 : Int → Int) (w1 : wd), S.2.1 t - i < (fu : Int) → (0 ≤ i ∧ i ≤ S.2.1 t ∧ rS G w1 R (rT S (th2 false false)) ∧ w1 n23 = some (eI G 30 D1) ∧ (∀ j, 0 ≤ D1 j ∧ D1 j ≤ 255) ∧ (∀ j, 0 ≤ j → j < i → D1 j = S.2.2.1 t (S.2.1 t - 1 - j)) ∧ ((o = 1 ∧ trx i (S.2.1 t) (S.2.2.1 t)) ∨ (o = 0 ∧ ¬ trx i (S.2.1 t) (S.2.2.1 t))) ∧ fr (rP R S.1) w w1) → gX b s0 G (1) (30) 31 [(4, iv i), (3, iv o), (2, rv n23), (0, rv R.1), (1, iv t)] [] (w1) := by
        intro fu; induction fu with
        | zero => intro i o D1 w1 hm hv; exact absurd hm (by omega)
        | succ fu ih31 =>
          intro i o D1 w1 hm hv
          obtain ⟨hi0, hin, hS, hA, hD, hDD, ho, hf0⟩ := hv
          obtain ⟨hr1, hr2, ⟨f3, hr3, hf3⟩, hr4, hr5, hr6⟩ := id hS
          obtain ⟨hrt, hn0, hn30, hC⟩ := hr5 t (by omega) (by omega)
          try dsimp only [rT] at hr1 hf3 hr4 hr5 hr6
          try dsimp only [rT] at hrt hn0 hn30 hC
          refine x_iload Z dX4_turn_31 rfl ?_
          refine x_aload_n Z dX4_turn_33 rfl rfl ?_
          refine x_getf (ci := 5) (j := 2) (C := RX4) (T := TX4) (N := 7) Z inX4g rfl (by decide) q1043 rfl dX4_turn_34 (by assumption) rfl ?_
          refine x_iload_n Z dX4_turn_37 rfl rfl ?_
          refine x_iald Z dX4_turn_38 (by assumption) (by omega) (by omega) (by omega) ?_
          refine x_icmp_ge Z 88 dX4_turn_39 (by decide) ⟨by omega, by omega⟩ ⟨by omega, by omega⟩ (fun c39 => ?_) (fun c39 => ?_)
          ·
            refine x_aload_n Z dX4_turn_88 rfl rfl ?_
            refine x_getf (ci := 5) (j := 1) (C := RX4) (T := TX4) (N := 7) Z inX4g rfl (by decide) q1042 rfl dX4_turn_89 (by assumption) rfl ?_
            refine x_iload_n Z dX4_turn_92 rfl rfl ?_
            refine x_aload_n Z dX4_turn_93 rfl rfl ?_
            refine x_aastR Z dX4_turn_94 hr3 hA (by decide) (by omega) (by omega) ?_
            have hS2 := hS.rep (t := t) (by omega) (by omega) hr3 hA hD (fun i i0 i3 z => hne _ (Or.inr (Or.inr (Or.inr (Or.inr ⟨i, i0, i3, z ▸ rfl⟩)))) rfl)
            have hS := hS2
            have hf0 := hf0.set (a := R.2.2.1) (e := eR G 3 (uQ f3 t (some n23))) (Or.inr (Or.inr (Or.inl rfl)))
            refine x_aload_n Z dX4_turn_95 rfl rfl ?_
            refine x_iload_n Z dX4_turn_96 rfl rfl ?_
            refine x_callV (ci := 5) (C := RX4) (T := TX4) (N := 7) Z okX4_done q1089 q1091 q13 rfl dX4_turn_97 (c_X4_done h0 htr hS) hS.1 ⟨Nat.le_of_ble_eq_true rfl, Nat.le_of_ble_eq_true rfl, Nat.le_of_ble_eq_true rfl, Nat.le_of_ble_eq_true rfl⟩ rfl rfl (Nat.le_of_ble_eq_true rfl) (fun v9 w9 hR => ?_)
            obtain ⟨rfl, hS, hf9⟩ := hR
            simp only [Option.toList_some, Option.toList_none, List.cons_append, List.nil_append]
            have ez : acTurn S.2.1 S.2.2.1 t = (o, t, S.2.1 t, (fun j => S.2.2.1 t (S.2.1 t - 1 - j)), 1, 0) := by { unfold acTurn; rw [show i = S.2.1 t by omega] at ho; rcases ho with ⟨e, h⟩ | ⟨e, h⟩; rw [if_pos ((trn_iff hn0).mpr h), e]; rw [if_neg (fun q => h ((trn_iff hn0).mp q)), e] }
            have hV : rV G w R S w9 _ := ⟨hS, rfl, fun q hq hn => (hf9 q (fun z => (rP_new (t := t) (ro := S.1) (w := w) hnw z).elim (fun y => hq y) hn) (by rw [hf0 q hq hn]; exact hn)).trans (hf0 q hq hn), fun x hx => rP_new (t := t) (ro := S.1) hnw hx⟩
            exact x_iret Z E (⟨_, rfl, rAct.ok hV rfl o1 trivial (rDo.mk (S := (rT S (th2 false false))) ez (rK.rf (S := (rT S (th2 false false)))).rep rfl (fun j j0 j1 => (congrFun (if_pos rfl) j).trans (hDD j j0 (by omega))))⟩) dX4_turn_100 (Nat.le_of_ble_eq_true rfl) (Nat.le_of_ble_eq_true rfl)
          ·
            refine x_aload_n Z dX4_turn_42 rfl rfl ?_
            refine x_iload Z dX4_turn_43 rfl ?_
            refine x_aload_n Z dX4_turn_45 rfl rfl ?_
            refine x_getf (ci := 5) (j := 1) (C := RX4) (T := TX4) (N := 7) Z inX4g rfl (by decide) q1042 rfl dX4_turn_46 (by assumption) rfl ?_
            refine x_iload_n Z dX4_turn_49 rfl rfl ?_
            refine x_aaldR Z dX4_turn_50 hr3 (by decide) (by omega) (by omega) (hf3 t (by omega) (by omega)) ?_
            refine x_aload_n Z dX4_turn_51 rfl rfl ?_
            refine x_getf (ci := 5) (j := 2) (C := RX4) (T := TX4) (N := 7) Z inX4g rfl (by decide) q1043 rfl dX4_turn_52 (by assumption) rfl ?_
            refine x_iload_n Z dX4_turn_55 rfl rfl ?_
            refine x_iald Z dX4_turn_56 (by assumption) (by omega) (by omega) (by omega) ?_
            refine x_iconst Z dX4_turn_57 ?_
            refine x_isub Z dX4_turn_58 ?_
            refine x_iload Z dX4_turn_59 rfl ?_
            refine x_isub Z dX4_turn_61 ?_
            refine x_iald Z dX4_turn_62 (by assumption) (by omega) (by omega) (by omega) ?_
            refine x_iast Z dX4_turn_63 (by assumption) (by omega) (by omega) (by omega) ?_
            have hwv := ws1_s (w := w1) (a := n23) (e := eI G 30 (uF D1 i (S.2.2.1 t (S.2.1 t - 1 - i))))
            have hS8 := hS.frm (w' := ws1 w1 n23 (eI G 30 (uF D1 i (S.2.2.1 t (S.2.1 t - 1 - i))))) (P := fun q => q = n23) (fr.rf.set rfl) hne
            have hS := hS8
            obtain ⟨hr1, hr2, ⟨f3, hr3, hf3⟩, hr4, hr5, hr6⟩ := id hS
            obtain ⟨hrt, hn0, hn30, hC⟩ := hr5 t (by omega) (by omega)
            try dsimp only [rT] at hr1 hf3 hr4 hr5 hr6
            try dsimp only [rT] at hrt hn0 hn30 hC
            have hCa := hC i
            have hCb := uF_rng (i := i) hD (hC (S.2.1 t - 1 - i)).1 (hC (S.2.1 t - 1 - i)).2 i
            have hDD2 : ∀ j, 0 ≤ j → j < i + 1 → (uF D1 i (S.2.2.1 t (S.2.1 t - 1 - i))) j = S.2.2.1 t (S.2.1 t - 1 - j) := fun j j0 j1 => by { unfold uF; by_cases e : j = i; rw [if_pos e, e]; rw [if_neg e]; exact hDD j j0 (by omega) }
            refine x_aload_n Z dX4_turn_64 rfl rfl ?_
            refine x_iload Z dX4_turn_65 rfl ?_
            refine x_iald Z dX4_turn_67 (by assumption) (by omega) (by omega) (by omega) ?_
            refine x_aload_n Z dX4_turn_68 rfl rfl ?_
            refine x_getf (ci := 5) (j := 1) (C := RX4) (T := TX4) (N := 7) Z inX4g rfl (by decide) q1042 rfl dX4_turn_69 (by assumption) rfl ?_
            refine x_iload_n Z dX4_turn_72 rfl rfl ?_
            refine x_aaldR Z dX4_turn_73 hr3 (by decide) (by omega) (by omega) (hf3 t (by omega) (by omega)) ?_
            refine x_iload Z dX4_turn_74 rfl ?_
            refine x_iald Z dX4_turn_76 (by assumption) (by omega) (by omega) (by omega) ?_
            refine x_icmp_eq Z 82 dX4_turn_77 (by decide) ⟨by omega, by omega⟩ ⟨by omega, by omega⟩ (fun c77 => ?_) (fun c77 => ?_)
            ·
              refine x_iinc (L' := [(4, _), (3, _), (2, _), (0, _), (1, _)]) Z dX4_turn_82 rfl (Nat.le_of_ble_eq_true rfl) rfl ?_
              refine x_goto Z 31 dX4_turn_85 (by decide) ?_
              first | exact ih31 (i + 1) 1 _ _ (by omega) ⟨by omega, by omega, hS, hwv, uF_rng hD (hC (S.2.1 t - 1 - i)).1 (hC (S.2.1 t - 1 - i)).2, hDD2, Or.inl ⟨rfl, ⟨i, hi0, by omega, fun e => c77 (uF_s.trans e.symm)⟩⟩, hf0.set0 hnw⟩ | exact ih31 (i + 1) o _ _ (by omega) ⟨by omega, by omega, hS, hwv, uF_rng hD (hC (S.2.1 t - 1 - i)).1 (hC (S.2.1 t - 1 - i)).2, hDD2, ho.imp (fun h => ⟨h.1, (trx_s (c77.symm.trans uF_s)).mpr h.2⟩) (fun h => ⟨h.1, fun q => h.2 ((trx_s (c77.symm.trans uF_s)).mp q)⟩), hf0.set0 hnw⟩
            ·
              refine x_iconst Z dX4_turn_80 ?_
              refine x_istore_n (L' := [(3, _), (4, _), (2, _), (0, _), (1, _)]) Z dX4_turn_81 rfl (Nat.le_of_ble_eq_true rfl) rfl ?_
              refine x_iinc (L' := [(4, _), (3, _), (2, _), (0, _), (1, _)]) Z dX4_turn_82 rfl (Nat.le_of_ble_eq_true rfl) rfl ?_
              refine x_goto Z 31 dX4_turn_85 (by decide) ?_
              first | exact ih31 (i + 1) 1 _ _ (by omega) ⟨by omega, by omega, hS, hwv, uF_rng hD (hC (S.2.1 t - 1 - i)).1 (hC (S.2.1 t - 1 - i)).2, hDD2, Or.inl ⟨rfl, ⟨i, hi0, by omega, fun e => c77 (uF_s.trans e.symm)⟩⟩, hf0.set0 hnw⟩ | exact ih31 (i + 1) o _ _ (by omega) ⟨by omega, by omega, hS, hwv, uF_rng hD (hC (S.2.1 t - 1 - i)).1 (hC (S.2.1 t - 1 - i)).2, hDD2, ho.imp (fun h => ⟨h.1, (trx_s (c77.symm.trans uF_s)).mpr h.2⟩) (fun h => ⟨h.1, fun q => h.2 ((trx_s (c77.symm.trans uF_s)).mp q)⟩), hf0.set0 hnw⟩
      exact loop31 40 0 0 _ _ (by omega) ⟨by omega, by omega, hS, hA, fun j => ⟨Int.le_refl 0, by exact (by decide : (0 : Int) ≤ 255)⟩, fun j j0 j1 => absurd j1 (by omega), Or.inr ⟨rfl, fun ⟨j, j0, j1, _⟩ => by omega⟩, hf0⟩
    ·
      have hbad := c16
      refine x_iconst Z dX4_turn_19 ?_
      exact x_iret Z E (by first | exact ⟨_, rfl, rAct.bad1 hS hf0 hbad hc1⟩ | exact ⟨_, rfl, rAct.bad1 hS hf0 hbad hc1⟩) dX4_turn_20 (Nat.le_of_ble_eq_true rfl) (Nat.le_of_ble_eq_true rfl)
  refine x_aload_n Z dX4_turn_0 rfl rfl ?_
  refine x_iload_n Z dX4_turn_1 rfl rfl ?_
  refine x_callS Z okX4_is q1071 q1072 dX4_turn_2 (c_X4_is h0 htr (by assumption)) ⟨Nat.le_of_ble_eq_true rfl, Nat.le_of_ble_eq_true rfl, Nat.le_of_ble_eq_true rfl, Nat.le_of_ble_eq_true rfl⟩ rfl rfl (Nat.le_of_ble_eq_true rfl) (fun v9 w9 hR => ?_)
  obtain ⟨o9, rfl, e9, hq⟩ := hR
  refine x_ew e9 ?_
  simp only [Option.toList_some, Option.toList_none, List.cons_append, List.nil_append]
  refine x_ifb_ne Z 12 dX4_turn_5 (by decide) (fun c5 => ?_) (fun c5 => ?_)
  ·
    have f5 := bq_t hq c5
    refine x_ib false Z dX4_turn_12 (by decide) ?_
    exact join13 _ (by first | exact ⟨fun _ => by omega, fun _ => rfl⟩ | exact ⟨fun h => absurd h (by decide), fun h => (h (by omega)).elim⟩)
  ·
    have f5 := bq_f hq c5
    refine x_ib true Z dX4_turn_8 (by decide) ?_
    refine x_goto Z 13 dX4_turn_9 (by decide) ?_
    exact join13 _ (by first | exact ⟨fun _ => by omega, fun _ => rfl⟩ | exact ⟨fun h => absurd h (by decide), fun h => (h (by omega)).elim⟩)
abbrev rmc_X4_fill : Room := { frames := 1, cells := 0, slots := 0, locals := 22 }
set_option maxRecDepth 100000 in
theorem c_X4_fill {l : Launch} {s0 : State} {G : gK} {w : wd} (h0 : gS0 s0) (htr : l.stackTraces = false) {R : rA} {S : rM} {t : Int} {f : Int} {m : Int} (hS : rS G w R S) (hit : inr t) (hif : inr f) (him : inr m) : gM l s0 G yX4_fill [Cond.code yX4_fill cX4_fill 6 (some .int)] rmc_X4_fill [rv R.1, iv t, iv f, iv m] w (fun v w' => ∃ z : Int, v = some (iv z) ∧ rAct G w R S (0 ≤ t ∧ t < 3) ((0 ≤ f ∧ f < 256) ∧ 0 ≤ m ∧ m ≤ 30 ∧ f + m ≤ 256) (acFill S.2.1 t f m) w' z) (noX) := by
  refine g_of h0 htr (by decide +kernel) (Nat.le_of_ble_eq_true rfl) ?_
  intro b Z0 E
  have Z : gAm b l s0 G cX4_fill RX4 6 rmc_X4_fill := Z0
  refine x_el (L' := [(0, rv R.1), (1, iv t), (2, iv f), (3, iv m)]) rfl ?_
  obtain ⟨hr1, hr2, ⟨f3, hr3, hf3⟩, hr4, hr5, hr6⟩ := id hS
  have hf0 : fr (rP R S.1) w w := fr.rf
  have join44 : ∀ (c1 c2 : Bool), ((c1 = true ↔ ¬ (0 ≤ t ∧ t < 3)) ∧ (c2 = true ↔ ¬ ((0 ≤ f ∧ f < 256) ∧ 0 ≤ m ∧ m ≤ 30 ∧ f + m ≤ 256))) → gX b s0 G (0) (0) 44 [(0, rv R.1), (1, iv t), (2, iv f), (3, iv m)] [iv (b2 c2), iv (b2 c1), rv R.1] (w) := by
    intro c1 c2 hv
    obtain ⟨hc1, hc2⟩ := hv
    refine x_callV (ci := 5) (C := RX4) (T := TX4) (N := 7) Z okX4_isThrown q1077 q1079 q11 rfl dX4_fill_44 (c_X4_isThrown h0 htr hS) hS.1 ⟨Nat.le_of_ble_eq_true rfl, Nat.le_of_ble_eq_true rfl, Nat.le_of_ble_eq_true rfl, Nat.le_of_ble_eq_true rfl⟩ rfl rfl (Nat.le_of_ble_eq_true rfl) (fun v9 w9 hR => ?_)
    obtain ⟨rfl, hS, hf9⟩ := hR
    have hf0 := hf0.tr hf9
    simp only [Option.toList_some, Option.toList_none, List.cons_append, List.nil_append]
    refine x_ifb_eq Z 52 dX4_fill_47 (by decide) (fun c47 => ?_) (fun c47 => ?_)
    ·
      obtain ⟨ea, ec⟩ := bor_f c47
      have o1 := bq_n hc1 ea
      have o2 := bq_n hc2 ec
      subst ea
      subst ec
      obtain ⟨hr1, hr2, ⟨f3, hr3, hf3⟩, hr4, hr5, hr6⟩ := id hS
      obtain ⟨hrt, hn0, hn30, hC⟩ := hr5 t (by omega) (by omega)
      try dsimp only [rT] at hr1 hf3 hr4 hr5 hr6
      try dsimp only [rT] at hrt hn0 hn30 hC
      have en : (rT S (th2 false false)).2.1 t = S.2.1 t := rfl
      have e1 : (rT S (th2 false false)).1 = S.1 := rfl
      have hK : rK (rT S (th2 false false)) (rT S (th2 false false)) t := rK.rf
      refine x_aload_n Z dX4_fill_52 rfl rfl ?_
      refine x_getf (ci := 5) (j := 2) (C := RX4) (T := TX4) (N := 7) Z inX4g rfl (by decide) q1043 rfl dX4_fill_53 (by assumption) rfl ?_
      refine x_iload_n Z dX4_fill_56 rfl rfl ?_
      refine x_iald Z dX4_fill_57 (by assumption) (by omega) (by omega) (by omega) ?_
      refine x_istore (L' := [(4, _), (0, _), (1, _), (2, _), (3, _)]) Z dX4_fill_58 (Nat.le_of_ble_eq_true rfl) rfl ?_
      refine x_iconst Z dX4_fill_60 ?_
      refine x_istore (L' := [(5, _), (4, _), (0, _), (1, _), (2, _), (3, _)]) Z dX4_fill_61 (Nat.le_of_ble_eq_true rfl) rfl ?_
      have loop63 : ∀ (fu : Nat) (i : Int) (S1 : rM) (w1 : wd), m - i < (fu : Int) → (0 ≤ i ∧ i ≤ m ∧ rS G w1 R S1 ∧ S1.1 = S.1 ∧ S1.2.1 t = S.2.1 t ∧ rK (rT S (th2 false false)) S1 t ∧ (∀ j, 0 ≤ j → j < i → S1.2.2.1 t j = f + j) ∧ fr (rP R S.1) w w1) → gX b s0 G (0) (0) 63 [(5, iv i), (4, iv (S.2.1 t)), (0, rv R.1), (1, iv t), (2, iv f), (3, iv m)] [] (w1) := by
        intro fu; induction fu with
        | zero => intro i S1 w1 hm hv; exact absurd hm (by omega)
        | succ fu ih63 =>
          intro i S1 w1 hm hv
          obtain ⟨hi0, hin, hS, e1, en, hK, hc, hf0⟩ := hv
          obtain ⟨hr1, hr2, ⟨f3, hr3, hf3⟩, hr4, hr5, hr6⟩ := id hS
          obtain ⟨hrt, hn0, hn30, hC⟩ := hr5 t (by omega) (by omega)
          try dsimp only [rT] at hr1 hf3 hr4 hr5 hr6
          try dsimp only [rT] at hrt hn0 hn30 hC
          refine x_iload Z dX4_fill_63 rfl ?_
          refine x_iload_n Z dX4_fill_65 rfl rfl ?_
          refine x_icmp_ge Z 88 dX4_fill_66 (by decide) ⟨by omega, by omega⟩ ⟨by omega, by omega⟩ (fun c66 => ?_) (fun c66 => ?_)
          ·
            refine x_aload_n Z dX4_fill_88 rfl rfl ?_
            refine x_getf (ci := 5) (j := 2) (C := RX4) (T := TX4) (N := 7) Z inX4g rfl (by decide) q1043 rfl dX4_fill_89 (by assumption) rfl ?_
            refine x_iload_n Z dX4_fill_92 rfl rfl ?_
            refine x_iload_n Z dX4_fill_93 rfl rfl ?_
            refine x_iast Z dX4_fill_94 (by assumption) (by omega) (by omega) (by omega) ?_
            obtain ⟨hS, hf0⟩ := hS.sizf (t := t) (x := m) hf0 (by omega) (by omega)
            have hK := hK.siz (x := m)
            obtain ⟨hr1, hr2, ⟨f3, hr3, hf3⟩, hr4, hr5, hr6⟩ := id hS
            obtain ⟨hrt, hn0, hn30, hC⟩ := hr5 t (by omega) (by omega)
            try dsimp only [rT] at hr1 hf3 hr4 hr5 hr6
            try dsimp only [rT] at hrt hn0 hn30 hC
            refine x_aload_n Z dX4_fill_95 rfl rfl ?_
            refine x_iload Z dX4_fill_96 rfl ?_
            refine x_callV (ci := 5) (C := RX4) (T := TX4) (N := 7) Z okX4_done q1089 q1091 q13 rfl dX4_fill_98 (c_X4_done h0 htr hS) hS.1 ⟨Nat.le_of_ble_eq_true rfl, Nat.le_of_ble_eq_true rfl, Nat.le_of_ble_eq_true rfl, Nat.le_of_ble_eq_true rfl⟩ rfl rfl (Nat.le_of_ble_eq_true rfl) (fun v9 w9 hR => ?_)
            obtain ⟨rfl, hS, hf9⟩ := hR
            have hf0 := hf0.trE e1 hf9
            simp only [Option.toList_some, Option.toList_none, List.cons_append, List.nil_append]
            exact x_iret Z E (by first | exact ⟨_, rfl, rAct.bad2 hS hf0 hbad hc1 hc2⟩ | exact ⟨_, rfl, rAct.fin hK hS hf0 e1 o1 o2 rfl uF_s (fun j j0 j1 => hc j j0 (by omega))⟩) dX4_fill_101 (Nat.le_of_ble_eq_true rfl) (Nat.le_of_ble_eq_true rfl)
          ·
            refine x_aload_n Z dX4_fill_69 rfl rfl ?_
            refine x_getf (ci := 5) (j := 1) (C := RX4) (T := TX4) (N := 7) Z inX4g rfl (by decide) q1042 rfl dX4_fill_70 (by assumption) rfl ?_
            refine x_iload_n Z dX4_fill_73 rfl rfl ?_
            refine x_aaldR Z dX4_fill_74 hr3 (by decide) (by omega) (by omega) (hf3 t (by omega) (by omega)) ?_
            refine x_iload Z dX4_fill_75 rfl ?_
            refine x_iload_n Z dX4_fill_77 rfl rfl ?_
            refine x_iload Z dX4_fill_78 rfl ?_
            refine x_iadd Z dX4_fill_80 ?_
            refine x_iast Z dX4_fill_81 (by assumption) (by omega) (by omega) (by omega) ?_
            refine x_iinc (L' := [(5, _), (4, _), (0, _), (1, _), (2, _), (3, _)]) Z dX4_fill_82 rfl (Nat.le_of_ble_eq_true rfl) rfl ?_
            refine x_goto Z 63 dX4_fill_85 (by decide) ?_
            exact ih63 (i + 1) _ _ (by omega) ⟨by omega, by omega, hS.row (t := t) (p := i) (x := f + i) (by omega) (by omega) (by omega) (by omega), e1, en, hK.row, fun j j0 j1 => (congrFun (if_pos rfl) j).trans (by { unfold uF; by_cases e : j = i; rw [if_pos e, e]; rw [if_neg e]; exact hc j j0 (by omega) }), hf0.set (rP_e (t := t) e1 (by omega) (by omega))⟩
      exact loop63 40 0 _ _ (by omega) ⟨by omega, by omega, hS, e1, en, hK, fun j j0 j1 => absurd j1 (by omega), hf0⟩
    ·
      have hbad := c47
      refine x_iconst Z dX4_fill_50 ?_
      exact x_iret Z E (by first | exact ⟨_, rfl, rAct.bad2 hS hf0 hbad hc1 hc2⟩ | exact ⟨_, rfl, rAct.fin hK hS hf0 e1 o1 o2 rfl uF_s (fun j j0 j1 => hc j j0 (by omega))⟩) dX4_fill_51 (Nat.le_of_ble_eq_true rfl) (Nat.le_of_ble_eq_true rfl)
  refine x_aload_n Z dX4_fill_0 rfl rfl ?_
  refine x_iload_n Z dX4_fill_1 rfl rfl ?_
  refine x_callS Z okX4_is q1071 q1072 dX4_fill_2 (c_X4_is h0 htr (by assumption)) ⟨Nat.le_of_ble_eq_true rfl, Nat.le_of_ble_eq_true rfl, Nat.le_of_ble_eq_true rfl, Nat.le_of_ble_eq_true rfl⟩ rfl rfl (Nat.le_of_ble_eq_true rfl) (fun v9 w9 hR => ?_)
  obtain ⟨o9, rfl, e9, hq⟩ := hR
  refine x_ew e9 ?_
  simp only [Option.toList_some, Option.toList_none, List.cons_append, List.nil_append]
  refine x_ifb_ne Z 12 dX4_fill_5 (by decide) (fun c5 => ?_) (fun c5 => ?_)
  ·
    have f5 := bq_t hq c5
    refine x_ib false Z dX4_fill_12 (by decide) ?_
    refine x_iload_n Z dX4_fill_13 rfl rfl ?_
    refine x_callS Z okX4_isSign q1074 q1075 dX4_fill_14 (c_X4_isSign h0 htr (by assumption)) ⟨Nat.le_of_ble_eq_true rfl, Nat.le_of_ble_eq_true rfl, Nat.le_of_ble_eq_true rfl, Nat.le_of_ble_eq_true rfl⟩ rfl rfl (Nat.le_of_ble_eq_true rfl) (fun v9 w9 hR => ?_)
    obtain ⟨o9, rfl, e9, hq⟩ := hR
    refine x_ew e9 ?_
    simp only [Option.toList_some, Option.toList_none, List.cons_append, List.nil_append]
    refine x_ifb_eq Z 39 dX4_fill_17 (by decide) (fun c17 => ?_) (fun c17 => ?_)
    ·
      have f17 := bq_f hq c17
      refine x_ib true Z dX4_fill_39 (by decide) ?_
      refine x_goto Z 44 dX4_fill_40 (by decide) ?_
      exact join44 _ _ ⟨(by first | exact ⟨fun _ => by omega, fun _ => rfl⟩ | exact ⟨fun h => absurd h (by decide), fun h => (h (by omega)).elim⟩), (by first | exact ⟨fun _ => by omega, fun _ => rfl⟩ | exact ⟨fun h => absurd h (by decide), fun h => (h (by omega)).elim⟩)⟩
    ·
      have f17 := bq_t hq c17
      refine x_iload_n Z dX4_fill_20 rfl rfl ?_
      refine x_if_lt Z 39 dX4_fill_21 (by decide) ⟨by omega, by omega⟩ (fun c21 => ?_) (fun c21 => ?_)
      ·
        refine x_ib true Z dX4_fill_39 (by decide) ?_
        refine x_goto Z 44 dX4_fill_40 (by decide) ?_
        exact join44 _ _ ⟨(by first | exact ⟨fun _ => by omega, fun _ => rfl⟩ | exact ⟨fun h => absurd h (by decide), fun h => (h (by omega)).elim⟩), (by first | exact ⟨fun _ => by omega, fun _ => rfl⟩ | exact ⟨fun h => absurd h (by decide), fun h => (h (by omega)).elim⟩)⟩
      ·
        refine x_iload_n Z dX4_fill_24 rfl rfl ?_
        refine x_bipush Z dX4_fill_25 (by decide +kernel) ?_
        refine x_icmp_gt Z 39 dX4_fill_27 (by decide) ⟨by omega, by omega⟩ ⟨by omega, by omega⟩ (fun c27 => ?_) (fun c27 => ?_)
        ·
          refine x_ib true Z dX4_fill_39 (by decide) ?_
          refine x_goto Z 44 dX4_fill_40 (by decide) ?_
          exact join44 _ _ ⟨(by first | exact ⟨fun _ => by omega, fun _ => rfl⟩ | exact ⟨fun h => absurd h (by decide), fun h => (h (by omega)).elim⟩), (by first | exact ⟨fun _ => by omega, fun _ => rfl⟩ | exact ⟨fun h => absurd h (by decide), fun h => (h (by omega)).elim⟩)⟩
        ·
          refine x_iload_n Z dX4_fill_30 rfl rfl ?_
          refine x_iload_n Z dX4_fill_31 rfl rfl ?_
          refine x_iadd Z dX4_fill_32 ?_
          refine x_sipush Z dX4_fill_33 (by decide +kernel) ?_
          refine x_icmp_le Z 43 dX4_fill_36 (by decide) ⟨by omega, by omega⟩ ⟨by omega, by omega⟩ (fun c36 => ?_) (fun c36 => ?_)
          ·
            refine x_ib false Z dX4_fill_43 (by decide) ?_
            exact join44 _ _ ⟨(by first | exact ⟨fun _ => by omega, fun _ => rfl⟩ | exact ⟨fun h => absurd h (by decide), fun h => (h (by omega)).elim⟩), (by first | exact ⟨fun _ => by omega, fun _ => rfl⟩ | exact ⟨fun h => absurd h (by decide), fun h => (h (by omega)).elim⟩)⟩
          ·
            refine x_ib true Z dX4_fill_39 (by decide) ?_
            refine x_goto Z 44 dX4_fill_40 (by decide) ?_
            exact join44 _ _ ⟨(by first | exact ⟨fun _ => by omega, fun _ => rfl⟩ | exact ⟨fun h => absurd h (by decide), fun h => (h (by omega)).elim⟩), (by first | exact ⟨fun _ => by omega, fun _ => rfl⟩ | exact ⟨fun h => absurd h (by decide), fun h => (h (by omega)).elim⟩)⟩
  ·
    have f5 := bq_f hq c5
    refine x_ib true Z dX4_fill_8 (by decide) ?_
    refine x_goto Z 13 dX4_fill_9 (by decide) ?_
    refine x_iload_n Z dX4_fill_13 rfl rfl ?_
    refine x_callS Z okX4_isSign q1074 q1075 dX4_fill_14 (c_X4_isSign h0 htr (by assumption)) ⟨Nat.le_of_ble_eq_true rfl, Nat.le_of_ble_eq_true rfl, Nat.le_of_ble_eq_true rfl, Nat.le_of_ble_eq_true rfl⟩ rfl rfl (Nat.le_of_ble_eq_true rfl) (fun v9 w9 hR => ?_)
    obtain ⟨o9, rfl, e9, hq⟩ := hR
    refine x_ew e9 ?_
    simp only [Option.toList_some, Option.toList_none, List.cons_append, List.nil_append]
    refine x_ifb_eq Z 39 dX4_fill_17 (by decide) (fun c17 => ?_) (fun c17 => ?_)
    ·
      have f17 := bq_f hq c17
      refine x_ib true Z dX4_fill_39 (by decide) ?_
      refine x_goto Z 44 dX4_fill_40 (by decide) ?_
      exact join44 _ _ ⟨(by first | exact ⟨fun _ => by omega, fun _ => rfl⟩ | exact ⟨fun h => absurd h (by decide), fun h => (h (by omega)).elim⟩), (by first | exact ⟨fun _ => by omega, fun _ => rfl⟩ | exact ⟨fun h => absurd h (by decide), fun h => (h (by omega)).elim⟩)⟩
    ·
      have f17 := bq_t hq c17
      refine x_iload_n Z dX4_fill_20 rfl rfl ?_
      refine x_if_lt Z 39 dX4_fill_21 (by decide) ⟨by omega, by omega⟩ (fun c21 => ?_) (fun c21 => ?_)
      ·
        refine x_ib true Z dX4_fill_39 (by decide) ?_
        refine x_goto Z 44 dX4_fill_40 (by decide) ?_
        exact join44 _ _ ⟨(by first | exact ⟨fun _ => by omega, fun _ => rfl⟩ | exact ⟨fun h => absurd h (by decide), fun h => (h (by omega)).elim⟩), (by first | exact ⟨fun _ => by omega, fun _ => rfl⟩ | exact ⟨fun h => absurd h (by decide), fun h => (h (by omega)).elim⟩)⟩
      ·
        refine x_iload_n Z dX4_fill_24 rfl rfl ?_
        refine x_bipush Z dX4_fill_25 (by decide +kernel) ?_
        refine x_icmp_gt Z 39 dX4_fill_27 (by decide) ⟨by omega, by omega⟩ ⟨by omega, by omega⟩ (fun c27 => ?_) (fun c27 => ?_)
        ·
          refine x_ib true Z dX4_fill_39 (by decide) ?_
          refine x_goto Z 44 dX4_fill_40 (by decide) ?_
          exact join44 _ _ ⟨(by first | exact ⟨fun _ => by omega, fun _ => rfl⟩ | exact ⟨fun h => absurd h (by decide), fun h => (h (by omega)).elim⟩), (by first | exact ⟨fun _ => by omega, fun _ => rfl⟩ | exact ⟨fun h => absurd h (by decide), fun h => (h (by omega)).elim⟩)⟩
        ·
          refine x_iload_n Z dX4_fill_30 rfl rfl ?_
          refine x_iload_n Z dX4_fill_31 rfl rfl ?_
          refine x_iadd Z dX4_fill_32 ?_
          refine x_sipush Z dX4_fill_33 (by decide +kernel) ?_
          refine x_icmp_le Z 43 dX4_fill_36 (by decide) ⟨by omega, by omega⟩ ⟨by omega, by omega⟩ (fun c36 => ?_) (fun c36 => ?_)
          ·
            refine x_ib false Z dX4_fill_43 (by decide) ?_
            exact join44 _ _ ⟨(by first | exact ⟨fun _ => by omega, fun _ => rfl⟩ | exact ⟨fun h => absurd h (by decide), fun h => (h (by omega)).elim⟩), (by first | exact ⟨fun _ => by omega, fun _ => rfl⟩ | exact ⟨fun h => absurd h (by decide), fun h => (h (by omega)).elim⟩)⟩
          ·
            refine x_ib true Z dX4_fill_39 (by decide) ?_
            refine x_goto Z 44 dX4_fill_40 (by decide) ?_
            exact join44 _ _ ⟨(by first | exact ⟨fun _ => by omega, fun _ => rfl⟩ | exact ⟨fun h => absurd h (by decide), fun h => (h (by omega)).elim⟩), (by first | exact ⟨fun _ => by omega, fun _ => rfl⟩ | exact ⟨fun h => absurd h (by decide), fun h => (h (by omega)).elim⟩)⟩
abbrev rmc_X4_cut : Room := { frames := 2, cells := 0, slots := 0, locals := 43 }
set_option maxRecDepth 100000 in
theorem c_X4_cut {l : Launch} {s0 : State} {G : gK} {w : wd} (h0 : gS0 s0) (htr : l.stackTraces = false) {R : rA} {S : rM} {t : Int} {f : Int} {g : Int} (hS : rS G w R S) (hit : inr t) (hif : inr f) (hig : inr g) : gM l s0 G yX4_cut [Cond.code yX4_cut cX4_cut 5 (some .int)] rmc_X4_cut [rv R.1, iv t, iv f, iv g] w (fun v w' => ∃ z : Int, v = some (iv z) ∧ rAct G w R S ((0 ≤ t ∧ t < 3) ∧ 0 ≤ f ∧ f ≤ g ∧ g ≤ S.2.1 t) (True) (acCut S.2.2.1 t f g) w' z) (noX) := by
  refine g_of h0 htr (by decide +kernel) (Nat.le_of_ble_eq_true rfl) ?_
  intro b Z0 E
  have Z : gAm b l s0 G cX4_cut RX4 5 rmc_X4_cut := Z0
  refine x_el (L' := [(0, rv R.1), (1, iv t), (2, iv f), (3, iv g)]) rfl ?_
  obtain ⟨hr1, hr2, ⟨f3, hr3, hf3⟩, hr4, hr5, hr6⟩ := id hS
  have hf0 : fr (rP R S.1) w w := fr.rf
  have join32 : ∀ (c1 : Bool), (c1 = true ↔ ¬ ((0 ≤ t ∧ t < 3) ∧ 0 ≤ f ∧ f ≤ g ∧ g ≤ S.2.1 t)) → gX b s0 G (0) (0) 32 [(0, rv R.1), (1, iv t), (2, iv f), (3, iv g)] [iv (b2 c1), rv R.1] (w) := by
    intro c1 hv
    have hc1 := hv
    refine x_callV (ci := 5) (C := RX4) (T := TX4) (N := 7) Z okX4_isThrown_ q1106 q1108 q15 rfl dX4_cut_32 (c_X4_isThrown_ h0 htr hS) hS.1 ⟨Nat.le_of_ble_eq_true rfl, Nat.le_of_ble_eq_true rfl, Nat.le_of_ble_eq_true rfl, Nat.le_of_ble_eq_true rfl⟩ rfl rfl (Nat.le_of_ble_eq_true rfl) (fun v9 w9 hR => ?_)
    obtain ⟨rfl, hS, hf9⟩ := hR
    have hf0 := hf0.tr hf9
    simp only [Option.toList_some, Option.toList_none, List.cons_append, List.nil_append]
    refine x_ifb_eq Z 40 dX4_cut_35 (by decide) (fun c35 => ?_) (fun c35 => ?_)
    ·
      have ea := c35
      have o1 := bq_n hc1 ea
      subst ea
      obtain ⟨hr1, hr2, ⟨f3, hr3, hf3⟩, hr4, hr5, hr6⟩ := id hS
      obtain ⟨hrt, hn0, hn30, hC⟩ := hr5 t (by omega) (by omega)
      try dsimp only [rT] at hr1 hf3 hr4 hr5 hr6
      try dsimp only [rT] at hrt hn0 hn30 hC
      have en : (rT S (th2 false false)).2.1 t = S.2.1 t := rfl
      have e1 : (rT S (th2 false false)).1 = S.1 := rfl
      have hK : rK (rT S (th2 false false)) (rT S (th2 false false)) t := rK.rf
      refine x_iload_n Z dX4_cut_40 rfl rfl ?_
      refine x_istore (L' := [(4, _), (0, _), (1, _), (2, _), (3, _)]) Z dX4_cut_41 (Nat.le_of_ble_eq_true rfl) rfl ?_
      have loop43 : ∀ (fu : Nat) (i : Int) (S1 : rM) (w1 : wd), g - i < (fu : Int) → (f ≤ i ∧ i ≤ g ∧ rS G w1 R S1 ∧ S1.1 = S.1 ∧ S1.2.1 t = S.2.1 t ∧ rK (rT S (th2 false false)) S1 t ∧ ((∀ j, 0 ≤ j → j < i - f → S1.2.2.1 t j = S.2.2.1 t (f + j)) ∧ (∀ j, i ≤ j → S1.2.2.1 t j = S.2.2.1 t j)) ∧ fr (rP R S.1) w w1) → gX b s0 G (0) (0) 43 [(4, iv i), (0, rv R.1), (1, iv t), (2, iv f), (3, iv g)] [] (w1) := by
        intro fu; induction fu with
        | zero => intro i S1 w1 hm hv; exact absurd hm (by omega)
        | succ fu ih43 =>
          intro i S1 w1 hm hv
          obtain ⟨hi0, hin, hS, e1, en, hK, hc, hf0⟩ := hv
          obtain ⟨hr1, hr2, ⟨f3, hr3, hf3⟩, hr4, hr5, hr6⟩ := id hS
          obtain ⟨hrt, hn0, hn30, hC⟩ := hr5 t (by omega) (by omega)
          try dsimp only [rT] at hr1 hf3 hr4 hr5 hr6
          try dsimp only [rT] at hrt hn0 hn30 hC
          refine x_iload Z dX4_cut_43 rfl ?_
          refine x_iload_n Z dX4_cut_45 rfl rfl ?_
          refine x_icmp_ge Z 75 dX4_cut_46 (by decide) ⟨by omega, by omega⟩ ⟨by omega, by omega⟩ (fun c46 => ?_) (fun c46 => ?_)
          ·
            refine x_aload_n Z dX4_cut_75 rfl rfl ?_
            refine x_getf (ci := 5) (j := 2) (C := RX4) (T := TX4) (N := 7) Z inX4g rfl (by decide) q1043 rfl dX4_cut_76 (by assumption) rfl ?_
            refine x_iload_n Z dX4_cut_79 rfl rfl ?_
            refine x_iload_n Z dX4_cut_80 rfl rfl ?_
            refine x_iload_n Z dX4_cut_81 rfl rfl ?_
            refine x_isub Z dX4_cut_82 ?_
            refine x_iast Z dX4_cut_83 (by assumption) (by omega) (by omega) (by omega) ?_
            obtain ⟨hS, hf0⟩ := hS.sizf (t := t) (x := g - f) hf0 (by omega) (by omega)
            have hK := hK.siz (x := g - f)
            obtain ⟨hr1, hr2, ⟨f3, hr3, hf3⟩, hr4, hr5, hr6⟩ := id hS
            obtain ⟨hrt, hn0, hn30, hC⟩ := hr5 t (by omega) (by omega)
            try dsimp only [rT] at hr1 hf3 hr4 hr5 hr6
            try dsimp only [rT] at hrt hn0 hn30 hC
            refine x_aload_n Z dX4_cut_84 rfl rfl ?_
            refine x_aload_n Z dX4_cut_85 rfl rfl ?_
            refine x_getf (ci := 5) (j := 2) (C := RX4) (T := TX4) (N := 7) Z inX4g rfl (by decide) q1043 rfl dX4_cut_86 (by assumption) rfl ?_
            refine x_iload_n Z dX4_cut_89 rfl rfl ?_
            refine x_iald Z dX4_cut_90 (by assumption) (by omega) (by omega) (by omega) ?_
            refine x_callV (ci := 5) (C := RX4) (T := TX4) (N := 7) Z okX4_done q1089 q1091 q13 rfl dX4_cut_91 (c_X4_done h0 htr hS) hS.1 ⟨Nat.le_of_ble_eq_true rfl, Nat.le_of_ble_eq_true rfl, Nat.le_of_ble_eq_true rfl, Nat.le_of_ble_eq_true rfl⟩ rfl rfl (Nat.le_of_ble_eq_true rfl) (fun v9 w9 hR => ?_)
            obtain ⟨rfl, hS, hf9⟩ := hR
            have hf0 := hf0.trE e1 hf9
            simp only [Option.toList_some, Option.toList_none, List.cons_append, List.nil_append]
            exact x_iret Z E (by first | exact ⟨_, rfl, rAct.bad1 hS hf0 hbad hc1⟩ | exact ⟨_, rfl, rAct.fin hK hS hf0 e1 o1 trivial (n' := g - f) (D := fun j => S.2.2.1 t (f + j)) (by unfold acCut; rw [uF_s]) uF_s (fun j j0 j1 => hc.1 j j0 (by omega))⟩) dX4_cut_94 (Nat.le_of_ble_eq_true rfl) (Nat.le_of_ble_eq_true rfl)
          ·
            refine x_aload_n Z dX4_cut_49 rfl rfl ?_
            refine x_getf (ci := 5) (j := 1) (C := RX4) (T := TX4) (N := 7) Z inX4g rfl (by decide) q1042 rfl dX4_cut_50 (by assumption) rfl ?_
            refine x_iload_n Z dX4_cut_53 rfl rfl ?_
            refine x_aaldR Z dX4_cut_54 hr3 (by decide) (by omega) (by omega) (hf3 t (by omega) (by omega)) ?_
            refine x_iload Z dX4_cut_55 rfl ?_
            refine x_iload_n Z dX4_cut_57 rfl rfl ?_
            refine x_isub Z dX4_cut_58 ?_
            refine x_aload_n Z dX4_cut_59 rfl rfl ?_
            refine x_getf (ci := 5) (j := 1) (C := RX4) (T := TX4) (N := 7) Z inX4g rfl (by decide) q1042 rfl dX4_cut_60 (by assumption) rfl ?_
            refine x_iload_n Z dX4_cut_63 rfl rfl ?_
            refine x_aaldR Z dX4_cut_64 hr3 (by decide) (by omega) (by omega) (hf3 t (by omega) (by omega)) ?_
            refine x_iload Z dX4_cut_65 rfl ?_
            refine x_iald Z dX4_cut_67 (by assumption) (by omega) (by omega) (by omega) ?_
            refine x_iast Z dX4_cut_68 (by assumption) (by omega) (by omega) (by omega) ?_
            refine x_iinc (L' := [(4, _), (0, _), (1, _), (2, _), (3, _)]) Z dX4_cut_69 rfl (Nat.le_of_ble_eq_true rfl) rfl ?_
            refine x_goto Z 43 dX4_cut_72 (by decide) ?_
            exact ih43 (i + 1) _ _ (by omega) ⟨by omega, by omega, hS.row (t := t) (p := i - f) (by omega) (by omega) (hC i).1 (hC i).2, e1, en, hK.row, ⟨fun j j0 j1 => (congrFun (if_pos rfl) j).trans (by { unfold uF; by_cases e : j = i - f; rw [if_pos e, hc.2 i (Int.le_refl i), e, show f + (i - f) = i by omega]; rw [if_neg e]; exact hc.1 j j0 (by omega) }), fun j j1 => (congrFun (if_pos rfl) j).trans (by { rw [uF_n (by omega)]; exact hc.2 j (by omega) })⟩, hf0.set (rP_e (t := t) e1 (by omega) (by omega))⟩
      exact loop43 40 f _ _ (by omega) ⟨by omega, by omega, hS, e1, en, hK, ⟨fun j j0 j1 => absurd j1 (by omega), fun j _ => rfl⟩, hf0⟩
    ·
      have hbad := c35
      refine x_iconst Z dX4_cut_38 ?_
      exact x_iret Z E (by first | exact ⟨_, rfl, rAct.bad1 hS hf0 hbad hc1⟩ | exact ⟨_, rfl, rAct.fin hK hS hf0 e1 o1 trivial (n' := g - f) (D := fun j => S.2.2.1 t (f + j)) (by unfold acCut; rw [uF_s]) uF_s (fun j j0 j1 => hc.1 j j0 (by omega))⟩) dX4_cut_39 (Nat.le_of_ble_eq_true rfl) (Nat.le_of_ble_eq_true rfl)
  refine x_aload_n Z dX4_cut_0 rfl rfl ?_
  refine x_iload_n Z dX4_cut_1 rfl rfl ?_
  refine x_callS Z okX4_is q1071 q1072 dX4_cut_2 (c_X4_is h0 htr (by assumption)) ⟨Nat.le_of_ble_eq_true rfl, Nat.le_of_ble_eq_true rfl, Nat.le_of_ble_eq_true rfl, Nat.le_of_ble_eq_true rfl⟩ rfl rfl (Nat.le_of_ble_eq_true rfl) (fun v9 w9 hR => ?_)
  obtain ⟨o9, rfl, e9, hq⟩ := hR
  refine x_ew e9 ?_
  simp only [Option.toList_some, Option.toList_none, List.cons_append, List.nil_append]
  refine x_ifb_eq Z 27 dX4_cut_5 (by decide) (fun c5 => ?_) (fun c5 => ?_)
  ·
    have f5 := bq_f hq c5
    refine x_ib true Z dX4_cut_27 (by decide) ?_
    refine x_goto Z 32 dX4_cut_28 (by decide) ?_
    exact join32 _ (by first | exact ⟨fun _ => by omega, fun _ => rfl⟩ | exact ⟨fun h => absurd h (by decide), fun h => (h (by omega)).elim⟩)
  ·
    have f5 := bq_t hq c5
    refine x_iload_n Z dX4_cut_8 rfl rfl ?_
    refine x_if_lt Z 27 dX4_cut_9 (by decide) ⟨by omega, by omega⟩ (fun c9 => ?_) (fun c9 => ?_)
    ·
      refine x_ib true Z dX4_cut_27 (by decide) ?_
      refine x_goto Z 32 dX4_cut_28 (by decide) ?_
      exact join32 _ (by first | exact ⟨fun _ => by omega, fun _ => rfl⟩ | exact ⟨fun h => absurd h (by decide), fun h => (h (by omega)).elim⟩)
    ·
      refine x_iload_n Z dX4_cut_12 rfl rfl ?_
      refine x_iload_n Z dX4_cut_13 rfl rfl ?_
      refine x_icmp_gt Z 27 dX4_cut_14 (by decide) ⟨by omega, by omega⟩ ⟨by omega, by omega⟩ (fun c14 => ?_) (fun c14 => ?_)
      ·
        refine x_ib true Z dX4_cut_27 (by decide) ?_
        refine x_goto Z 32 dX4_cut_28 (by decide) ?_
        exact join32 _ (by first | exact ⟨fun _ => by omega, fun _ => rfl⟩ | exact ⟨fun h => absurd h (by decide), fun h => (h (by omega)).elim⟩)
      ·
        have ⟨_, hn0, hn30, _⟩ := hr5 t (by omega) (by omega)
        refine x_iload_n Z dX4_cut_17 rfl rfl ?_
        refine x_aload_n Z dX4_cut_18 rfl rfl ?_
        refine x_getf (ci := 5) (j := 2) (C := RX4) (T := TX4) (N := 7) Z inX4g rfl (by decide) q1043 rfl dX4_cut_19 (by assumption) rfl ?_
        refine x_iload_n Z dX4_cut_22 rfl rfl ?_
        refine x_iald Z dX4_cut_23 (by assumption) (by omega) (by omega) (by omega) ?_
        refine x_icmp_le Z 31 dX4_cut_24 (by decide) ⟨by omega, by omega⟩ ⟨by omega, by omega⟩ (fun c24 => ?_) (fun c24 => ?_)
        ·
          refine x_ib false Z dX4_cut_31 (by decide) ?_
          exact join32 _ (by first | exact ⟨fun _ => by omega, fun _ => rfl⟩ | exact ⟨fun h => absurd h (by decide), fun h => (h (by omega)).elim⟩)
        ·
          refine x_ib true Z dX4_cut_27 (by decide) ?_
          refine x_goto Z 32 dX4_cut_28 (by decide) ?_
          exact join32 _ (by first | exact ⟨fun _ => by omega, fun _ => rfl⟩ | exact ⟨fun h => absurd h (by decide), fun h => (h (by omega)).elim⟩)
abbrev rmc_X4_sifted : Room := { frames := 1, cells := 0, slots := 0, locals := 21 }
set_option maxRecDepth 100000 in
theorem c_X4_sifted {l : Launch} {s0 : State} {G : gK} {w : wd} (h0 : gS0 s0) (htr : l.stackTraces = false) {R : rA} {S : rM} {t : Int} {sa : Nat} {B : Int → Bool} (hS : rS G w R S) (t0 : 0 ≤ t) (t3 : t < 3) (hz : w sa = some (eZ G 30 (fun j => b2 (B j)))) (hne : ∀ q, rP R S.1 q → ¬ q = sa) : gM l s0 G yX4_sifted [Cond.code yX4_sifted cX4_sifted 5 (some .int)] rmc_X4_sifted [rv R.1, iv t, rv sa] w (fun v w' => ∃ z : Int, v = some (iv z) ∧ ∃ S' : rM, rV G w R S w' S' ∧ S'.2.2.2.2.2.2 = S.2.2.2.2.2.2 ∧ rDo S (acSift S.2.1 S.2.2.1 t B) z S') (noX) := by
  refine g_of h0 htr (by decide +kernel) (Nat.le_of_ble_eq_true rfl) ?_
  intro b Z0 E
  have Z : gAm b l s0 G cX4_sifted RX4 5 rmc_X4_sifted := Z0
  refine x_el (L' := [(0, rv R.1), (1, iv t), (2, rv sa)]) rfl ?_
  obtain ⟨hr1, hr2, ⟨f3, hr3, hf3⟩, hr4, hr5, hr6⟩ := id hS
  obtain ⟨hrt, hn0, hn30, hC⟩ := hr5 t (by omega) (by omega)
  have hf0 : fr (rP R S.1) w w := fr.rf
  have e1 : S.1 = S.1 := rfl
  refine x_iconst Z dX4_sifted_0 ?_
  refine x_istore_n (L' := [(3, _), (0, _), (1, _), (2, _)]) Z dX4_sifted_1 rfl (Nat.le_of_ble_eq_true rfl) rfl ?_
  refine x_iconst Z dX4_sifted_2 ?_
  refine x_istore (L' := [(4, _), (3, _), (0, _), (1, _), (2, _)]) Z dX4_sifted_3 (Nat.le_of_ble_eq_true rfl) rfl ?_
  have loop5 : ∀ (fu : Nat) (i k1 : Int) (S1 : rM) (w1 : wd), S.2.1 t - i < (fu : Int) → (0 ≤ i ∧ i ≤ S.2.1 t ∧ 0 ≤ k1 ∧ k1 ≤ i ∧ rS G w1 R S1 ∧ S1.1 = S.1 ∧ S1.2.1 t = S.2.1 t ∧ rK S S1 t ∧ forI (sfs B (S.2.2.1 t)) i (S.2.1 t) (k1, S1.2.2.1 t) = sft B (S.2.1 t) (S.2.2.1 t) ∧ (∀ j, i ≤ j → S1.2.2.1 t j = S.2.2.1 t j) ∧ w1 sa = some (eZ G 30 (fun j => b2 (B j))) ∧ fr (rP R S.1) w w1) → gX b s0 G (0) (0) 5 [(4, iv i), (3, iv k1), (0, rv R.1), (1, iv t), (2, rv sa)] [] (w1) := by
    intro fu; induction fu with
    | zero => intro i k1 S1 w1 hm hv; exact absurd hm (by omega)
    | succ fu ih5 =>
      intro i k1 S1 w1 hm hv
      obtain ⟨hi0, hin, hk0, hki, hS, e1, en, hK, hif, hie, hz, hf0⟩ := hv
      obtain ⟨hr1, hr2, ⟨f3, hr3, hf3⟩, hr4, hr5, hr6⟩ := id hS
      obtain ⟨hrt, hn0, hn30, hC⟩ := hr5 t (by omega) (by omega)
      try dsimp only [rT] at hr1 hf3 hr4 hr5 hr6
      try dsimp only [rT] at hrt hn0 hn30 hC
      refine x_iload Z dX4_sifted_5 rfl ?_
      refine x_aload_n Z dX4_sifted_7 rfl rfl ?_
      refine x_getf (ci := 5) (j := 2) (C := RX4) (T := TX4) (N := 7) Z inX4g rfl (by decide) q1043 rfl dX4_sifted_8 (by assumption) rfl ?_
      refine x_iload_n Z dX4_sifted_11 rfl rfl ?_
      refine x_iald Z dX4_sifted_12 (by assumption) (by omega) (by omega) (by omega) ?_
      refine x_icmp_ge Z 49 dX4_sifted_13 (by decide) ⟨by omega, by omega⟩ ⟨by omega, by omega⟩ (fun c13 => ?_) (fun c13 => ?_)
      ·
        refine x_aload_n Z dX4_sifted_49 rfl rfl ?_
        refine x_getf (ci := 5) (j := 2) (C := RX4) (T := TX4) (N := 7) Z inX4g rfl (by decide) q1043 rfl dX4_sifted_50 (by assumption) rfl ?_
        refine x_iload_n Z dX4_sifted_53 rfl rfl ?_
        refine x_iald Z dX4_sifted_54 (by assumption) (by omega) (by omega) (by omega) ?_
        refine x_iload_n Z dX4_sifted_55 rfl rfl ?_
        refine x_isub Z dX4_sifted_56 ?_
        refine x_istore (L' := [(4, _), (3, _), (0, _), (1, _), (2, _)]) Z dX4_sifted_57 (Nat.le_of_ble_eq_true rfl) rfl ?_
        refine x_aload_n Z dX4_sifted_59 rfl rfl ?_
        refine x_getf (ci := 5) (j := 2) (C := RX4) (T := TX4) (N := 7) Z inX4g rfl (by decide) q1043 rfl dX4_sifted_60 (by assumption) rfl ?_
        refine x_iload_n Z dX4_sifted_63 rfl rfl ?_
        refine x_iload_n Z dX4_sifted_64 rfl rfl ?_
        refine x_iast Z dX4_sifted_65 (by assumption) (by omega) (by omega) (by omega) ?_
        obtain ⟨hS, hf0⟩ := hS.sizf (t := t) (x := k1) hf0 (by omega) (by omega)
        have hK := hK.siz (x := k1)
        obtain ⟨hr1, hr2, ⟨f3, hr3, hf3⟩, hr4, hr5, hr6⟩ := id hS
        obtain ⟨hrt, hn0, hn30, hC⟩ := hr5 t (by omega) (by omega)
        try dsimp only [rT] at hr1 hf3 hr4 hr5 hr6
        try dsimp only [rT] at hrt hn0 hn30 hC
        refine x_aload_n Z dX4_sifted_66 rfl rfl ?_
        refine x_iload Z dX4_sifted_67 rfl ?_
        refine x_callV (ci := 5) (C := RX4) (T := TX4) (N := 7) Z okX4_done q1089 q1091 q13 rfl dX4_sifted_69 (c_X4_done h0 htr hS) hS.1 ⟨Nat.le_of_ble_eq_true rfl, Nat.le_of_ble_eq_true rfl, Nat.le_of_ble_eq_true rfl, Nat.le_of_ble_eq_true rfl⟩ rfl rfl (Nat.le_of_ble_eq_true rfl) (fun v9 w9 hR => ?_)
        obtain ⟨rfl, hS, hf9⟩ := hR
        have hf0 := hf0.trE e1 hf9
        simp only [Option.toList_some, Option.toList_none, List.cons_append, List.nil_append]
        have hif2 : (k1, S1.2.2.1 t) = sft B (S.2.1 t) (S.2.2.1 t) := by { rw [← hif, forI_e (by omega)] }
        exact x_iret Z E (⟨_, rfl, _, ⟨hS, hK.2.2.2.1, hf0, fun x hx => Or.inl (by rw [← e1]; exact hx)⟩, hK.2.2.2.2, rDo.mk (n' := (sft B (S.2.1 t) (S.2.2.1 t)).1) (D := (sft B (S.2.1 t) (S.2.2.1 t)).2) (by unfold acSift; rw [en, ← hif2] <;> rfl) hK (uF_s.trans (congrArg Prod.fst hif2)) (fun j _ _ => congrFun (congrArg Prod.snd hif2) j)⟩) dX4_sifted_72 (Nat.le_of_ble_eq_true rfl) (Nat.le_of_ble_eq_true rfl)
      ·
        refine x_aload_n Z dX4_sifted_16 rfl rfl ?_
        refine x_iload Z dX4_sifted_17 rfl ?_
        refine x_zald Z dX4_sifted_19 (by assumption) (by omega) (by omega) (by omega) ?_
        refine x_ifb_eq Z 43 dX4_sifted_20 (by decide) (fun c20 => ?_) (fun c20 => ?_)
        ·
          refine x_iinc (L' := [(4, _), (3, _), (0, _), (1, _), (2, _)]) Z dX4_sifted_43 rfl (Nat.le_of_ble_eq_true rfl) rfl ?_
          refine x_goto Z 5 dX4_sifted_46 (by decide) ?_
          first | exact ih5 (i + 1) k1 _ _ (by omega) ⟨by omega, by omega, by omega, by omega, hS, e1, en, hK, by rw [← hif, forI_s (i := i) (by omega), sfs_f c20], fun j hj => hie j (by omega), hz, hf0⟩ | exact ih5 (i + 1) (k1 + 1) _ _ (by omega) ⟨by omega, by omega, by omega, by omega, hS.row (t := t) (p := k1) (by omega) (by omega) (hC i).1 (hC i).2, e1, en, hK.row, (by rw [← hif, forI_s (i := i) (by omega), sfs_t c20, ← hie i (Int.le_refl i)]; exact congrArg (fun D => forI (sfs B (S.2.2.1 t)) (i + 1) (S.2.1 t) (k1 + 1, D)) (if_pos rfl)), fun j hj => (congrFun (if_pos rfl) j).trans (by { rw [uF_n (by omega)]; exact hie j (by omega) }), (ws1_n (fun z => hne _ (rP_e (t := t) e1 (by omega) (by omega)) z.symm)).trans hz, hf0.set (rP_e (t := t) e1 (by omega) (by omega))⟩
        ·
          refine x_aload_n Z dX4_sifted_23 rfl rfl ?_
          refine x_getf (ci := 5) (j := 1) (C := RX4) (T := TX4) (N := 7) Z inX4g rfl (by decide) q1042 rfl dX4_sifted_24 (by assumption) rfl ?_
          refine x_iload_n Z dX4_sifted_27 rfl rfl ?_
          refine x_aaldR Z dX4_sifted_28 hr3 (by decide) (by omega) (by omega) (hf3 t (by omega) (by omega)) ?_
          refine x_iload_n Z dX4_sifted_29 rfl rfl ?_
          refine x_iinc (L' := [(3, _), (4, _), (0, _), (1, _), (2, _)]) Z dX4_sifted_30 rfl (Nat.le_of_ble_eq_true rfl) rfl ?_
          refine x_aload_n Z dX4_sifted_33 rfl rfl ?_
          refine x_getf (ci := 5) (j := 1) (C := RX4) (T := TX4) (N := 7) Z inX4g rfl (by decide) q1042 rfl dX4_sifted_34 (by assumption) rfl ?_
          refine x_iload_n Z dX4_sifted_37 rfl rfl ?_
          refine x_aaldR Z dX4_sifted_38 hr3 (by decide) (by omega) (by omega) (hf3 t (by omega) (by omega)) ?_
          refine x_iload Z dX4_sifted_39 rfl ?_
          refine x_iald Z dX4_sifted_41 (by assumption) (by omega) (by omega) (by omega) ?_
          refine x_iast Z dX4_sifted_42 (by assumption) (by omega) (by omega) (by omega) ?_
          refine x_iinc (L' := [(4, _), (3, _), (0, _), (1, _), (2, _)]) Z dX4_sifted_43 rfl (Nat.le_of_ble_eq_true rfl) rfl ?_
          refine x_goto Z 5 dX4_sifted_46 (by decide) ?_
          first | exact ih5 (i + 1) k1 _ _ (by omega) ⟨by omega, by omega, by omega, by omega, hS, e1, en, hK, by rw [← hif, forI_s (i := i) (by omega), sfs_f c20], fun j hj => hie j (by omega), hz, hf0⟩ | exact ih5 (i + 1) (k1 + 1) _ _ (by omega) ⟨by omega, by omega, by omega, by omega, hS.row (t := t) (p := k1) (by omega) (by omega) (hC i).1 (hC i).2, e1, en, hK.row, (by rw [← hif, forI_s (i := i) (by omega), sfs_t c20, ← hie i (Int.le_refl i)]; exact congrArg (fun D => forI (sfs B (S.2.2.1 t)) (i + 1) (S.2.1 t) (k1 + 1, D)) (if_pos rfl)), fun j hj => (congrFun (if_pos rfl) j).trans (by { rw [uF_n (by omega)]; exact hie j (by omega) }), (ws1_n (fun z => hne _ (rP_e (t := t) e1 (by omega) (by omega)) z.symm)).trans hz, hf0.set (rP_e (t := t) e1 (by omega) (by omega))⟩
  exact loop5 40 0 0 _ _ (by omega) ⟨by omega, by omega, by omega, by omega, hS, rfl, rfl, rK.rf, rfl, fun _ _ => rfl, hz, hf0⟩
abbrev rmc_X4_keep : Room := { frames := 3, cells := 1, slots := 30, locals := 66 }
set_option maxRecDepth 100000 in
theorem c_X4_keep {l : Launch} {s0 : State} {G : gK} {w : wd} (h0 : gS0 s0) (htr : l.stackTraces = false) {R : rA} {S : rM} {t : Int} {q : Int} {o : Bool} (hS : rS G w R S) (hit : inr t) (hiq : inr q) : gM l s0 G yX4_keep [Cond.code yX4_keep cX4_keep 6 (some .int)] rmc_X4_keep [rv R.1, iv t, iv q, iv (b2 o)] w (fun v w' => ∃ z : Int, v = some (iv z) ∧ rAct G w R S (0 ≤ t ∧ t < 3) (0 ≤ q ∧ q < 14) (acSift S.2.1 S.2.2.1 t (fun j => so (S.2.2.1 t j) q == o)) w' z) (noX) := by
  refine g_of h0 htr (by decide +kernel) (Nat.le_of_ble_eq_true rfl) ?_
  intro b Z0 E
  have Z : gAm b l s0 G cX4_keep RX4 6 rmc_X4_keep := Z0
  refine x_el (L' := [(0, rv R.1), (1, iv t), (2, iv q), (3, iv (b2 o))]) rfl ?_
  obtain ⟨hr1, hr2, ⟨f3, hr3, hf3⟩, hr4, hr5, hr6⟩ := id hS
  have hf0 : fr (rP R S.1) w w := fr.rf
  have join25 : ∀ (c1 c2 : Bool), ((c1 = true ↔ ¬ (0 ≤ t ∧ t < 3)) ∧ (c2 = true ↔ ¬ (0 ≤ q ∧ q < 14))) → gX b s0 G (0) (0) 25 [(0, rv R.1), (1, iv t), (2, iv q), (3, iv (b2 o))] [iv (b2 c2), iv (b2 c1), rv R.1] (w) := by
    intro c1 c2 hv
    obtain ⟨hc1, hc2⟩ := hv
    refine x_callV (ci := 5) (C := RX4) (T := TX4) (N := 7) Z okX4_isThrown q1077 q1079 q11 rfl dX4_keep_25 (c_X4_isThrown h0 htr hS) hS.1 ⟨Nat.le_of_ble_eq_true rfl, Nat.le_of_ble_eq_true rfl, Nat.le_of_ble_eq_true rfl, Nat.le_of_ble_eq_true rfl⟩ rfl rfl (Nat.le_of_ble_eq_true rfl) (fun v9 w9 hR => ?_)
    obtain ⟨rfl, hS, hf9⟩ := hR
    have hf0 := hf0.tr hf9
    simp only [Option.toList_some, Option.toList_none, List.cons_append, List.nil_append]
    refine x_ifb_eq Z 33 dX4_keep_28 (by decide) (fun c28 => ?_) (fun c28 => ?_)
    ·
      obtain ⟨ea, ec⟩ := bor_f c28
      have o1 := bq_n hc1 ea
      have o2 := bq_n hc2 ec
      subst ea
      subst ec
      obtain ⟨hr1, hr2, ⟨f3, hr3, hf3⟩, hr4, hr5, hr6⟩ := id hS
      obtain ⟨hrt, hn0, hn30, hC⟩ := hr5 t (by omega) (by omega)
      try dsimp only [rT] at hr1 hf3 hr4 hr5 hr6
      try dsimp only [rT] at hrt hn0 hn30 hC
      have en : (rT S (th2 false false)).2.1 t = S.2.1 t := rfl
      have e1 : (rT S (th2 false false)).1 = S.1 := rfl
      have hK : rK (rT S (th2 false false)) (rT S (th2 false false)) t := rK.rf
      refine x_bipush Z dX4_keep_33 (by decide +kernel) ?_
      refine x_newZ Z (30) q1159 (by first | rfl | omega) (by omega) (Nat.le_of_ble_eq_true rfl) (Nat.le_of_ble_eq_true rfl) dX4_keep_35 (fun n35 hn35 => ?_)
      have hne : ∀ q, rP R (rT S (th2 false false)).1 q → ¬ q = n35 := fun q hq z => hS.nn q hq (by rw [z]; exact hn35)
      have hnw : w n35 = none := hf0.none hn35 (fun z => hne _ z rfl)
      refine x_gen fun w0 hw0 => ?_
      have hS := hS.frm (w' := w0) (P := fun q => q = n35) (by rw [hw0]; exact fr.rf.set rfl) hne
      have hA : w0 n35 = some (eZ G 30 (fun j => b2 ((fun _ => false : Int → Bool) j))) := by { rw [hw0]; exact ws1_s }
      have hf0 : fr (rP R S.1) w w0 := by { rw [hw0]; exact hf0.set0 hnw }
      obtain ⟨hr1, hr2, ⟨f3, hr3, hf3⟩, hr4, hr5, hr6⟩ := id hS
      obtain ⟨hrt, hn0, hn30, hC⟩ := hr5 t (by omega) (by omega)
      try dsimp only [rT] at hr1 hf3 hr4 hr5 hr6
      try dsimp only [rT] at hrt hn0 hn30 hC
      refine x_astore (L' := [(4, _), (0, _), (1, _), (2, _), (3, _)]) Z dX4_keep_37 (Nat.le_of_ble_eq_true rfl) rfl ?_
      refine x_iconst Z dX4_keep_39 ?_
      refine x_istore (L' := [(5, _), (4, _), (0, _), (1, _), (2, _), (3, _)]) Z dX4_keep_40 (Nat.le_of_ble_eq_true rfl) rfl ?_
      have loop42 : ∀ (fu : Nat) (i : Int) (B1 : Int → Bool) (w1 : wd), S.2.1 t - i < (fu : Int) → (0 ≤ i ∧ i ≤ S.2.1 t ∧ rS G w1 R (rT S (th2 false false)) ∧ w1 n35 = some (eZ G 30 (fun j => b2 (B1 j))) ∧ (∀ j, 0 ≤ j → j < i → B1 j = (so (S.2.2.1 t j) q == o)) ∧ fr (rP R S.1) w w1) → gX b s0 G (1) (30) 42 [(5, iv i), (4, rv n35), (0, rv R.1), (1, iv t), (2, iv q), (3, iv (b2 o))] [] (w1) := by
        intro fu; induction fu with
        | zero => intro i B1 w1 hm hv; exact absurd hm (by omega)
        | succ fu ih42 =>
          intro i B1 w1 hm hv
          obtain ⟨hi0, hin, hS, hA, hBB, hf0⟩ := hv
          obtain ⟨hr1, hr2, ⟨f3, hr3, hf3⟩, hr4, hr5, hr6⟩ := id hS
          obtain ⟨hrt, hn0, hn30, hC⟩ := hr5 t (by omega) (by omega)
          try dsimp only [rT] at hr1 hf3 hr4 hr5 hr6
          try dsimp only [rT] at hrt hn0 hn30 hC
          have hCi := hC i
          have hki := kin_in (S.2.2.1 t i)
          refine x_iload Z dX4_keep_42 rfl ?_
          refine x_aload_n Z dX4_keep_44 rfl rfl ?_
          refine x_getf (ci := 5) (j := 2) (C := RX4) (T := TX4) (N := 7) Z inX4g rfl (by decide) q1043 rfl dX4_keep_45 (by assumption) rfl ?_
          refine x_iload_n Z dX4_keep_48 rfl rfl ?_
          refine x_iald Z dX4_keep_49 (by assumption) (by omega) (by omega) (by omega) ?_
          refine x_icmp_ge Z 87 dX4_keep_50 (by decide) ⟨by omega, by omega⟩ ⟨by omega, by omega⟩ (fun c50 => ?_) (fun c50 => ?_)
          ·
            refine x_aload_n Z dX4_keep_87 rfl rfl ?_
            refine x_iload_n Z dX4_keep_88 rfl rfl ?_
            refine x_aload Z dX4_keep_89 rfl ?_
            refine x_callV (ci := 5) (C := RX4) (T := TX4) (N := 7) Z okX4_sifted q1155 q1157 q18 rfl dX4_keep_91 (c_X4_sifted h0 htr hS (by omega) (by omega) (by assumption) (by assumption)) hS.1 ⟨Nat.le_of_ble_eq_true rfl, Nat.le_of_ble_eq_true rfl, Nat.le_of_ble_eq_true rfl, Nat.le_of_ble_eq_true rfl⟩ rfl rfl (Nat.le_of_ble_eq_true rfl) (fun v9 w9 hR => ?_)
            obtain ⟨z, rfl, S9, hV9, hT9, hd9⟩ := hR
            simp only [Option.toList_some, Option.toList_none, List.cons_append, List.nil_append]
            exact x_iret Z E (⟨_, rfl, rAct.ok (rV.tr (show rV G w R S w1 (rT S (th2 false false)) from ⟨hS, rfl, hf0, fun x hx => Or.inl hx⟩) hV9) hT9 o1 o2 (rDo.eq (acSift_cg (n := S.2.1) (m := S.2.1) (C := S.2.2.1) (D := S.2.2.1) (fun _ _ _ => ⟨rfl, tEq.rf⟩) (by omega) (by omega) hn0 (fun j j0 jn => hBB j j0 (by omega))) hd9)⟩) dX4_keep_94 (Nat.le_of_ble_eq_true rfl) (Nat.le_of_ble_eq_true rfl)
          ·
            refine x_aload Z dX4_keep_53 rfl ?_
            refine x_iload Z dX4_keep_55 rfl ?_
            refine x_aload_n Z dX4_keep_57 rfl rfl ?_
            refine x_aload_n Z dX4_keep_58 rfl rfl ?_
            refine x_getf (ci := 5) (j := 1) (C := RX4) (T := TX4) (N := 7) Z inX4g rfl (by decide) q1042 rfl dX4_keep_59 (by assumption) rfl ?_
            refine x_iload_n Z dX4_keep_62 rfl rfl ?_
            refine x_aaldR Z dX4_keep_63 hr3 (by decide) (by omega) (by omega) (hf3 t (by omega) (by omega)) ?_
            refine x_iload Z dX4_keep_64 rfl ?_
            refine x_iald Z dX4_keep_66 (by assumption) (by omega) (by omega) (by omega) ?_
            refine x_iload_n Z dX4_keep_67 rfl rfl ?_
            refine x_callV (ci := 5) (C := RX4) (T := TX4) (N := 7) Z okX4_isSo q1145 q1147 q17 rfl dX4_keep_68 (c_X4_isSo h0 htr hS (by omega) (by omega) (by omega) (by omega)) hS.1 ⟨Nat.le_of_ble_eq_true rfl, Nat.le_of_ble_eq_true rfl, Nat.le_of_ble_eq_true rfl, Nat.le_of_ble_eq_true rfl⟩ rfl rfl (Nat.le_of_ble_eq_true rfl) (fun v9 w9 hR => ?_)
            obtain ⟨rfl, e9⟩ := hR
            refine x_ew e9 ?_
            simp only [Option.toList_some, Option.toList_none, List.cons_append, List.nil_append]
            refine x_iload_n Z dX4_keep_71 rfl rfl ?_
            refine x_icmpb_ne Z 79 dX4_keep_72 (by decide) (fun c72 => ?_) (fun c72 => ?_)
            ·
              refine x_ib false Z dX4_keep_79 (by decide) ?_
              refine x_zast Z dX4_keep_80 hA (by decide) (by omega) (by omega) ?_
              refine x_iinc (L' := [(5, _), (4, _), (0, _), (1, _), (2, _), (3, _)]) Z dX4_keep_81 rfl (Nat.le_of_ble_eq_true rfl) rfl ?_
              refine x_goto Z 42 dX4_keep_84 (by decide) ?_
              first | exact ih42 (i + 1) _ _ (by omega) ⟨by omega, by omega, hS.frm (P := fun q => q = n35) (fr.rf.set rfl) hne, ws1_s.trans (congrArg some eZ_u), fun j j0 j1 => (by (show (if j = i then true else B1 j) = _; by_cases e : j = i; rw [if_pos e, e]; exact bo_eq c72; rw [if_neg e]; exact hBB j j0 (by omega))), hf0.set0 hnw⟩ | exact ih42 (i + 1) _ _ (by omega) ⟨by omega, by omega, hS.frm (P := fun q => q = n35) (fr.rf.set rfl) hne, ws1_s.trans (congrArg some eZ_u), fun j j0 j1 => (by (show (if j = i then false else B1 j) = _; by_cases e : j = i; rw [if_pos e, e]; exact bo_ne c72; rw [if_neg e]; exact hBB j j0 (by omega))), hf0.set0 hnw⟩
            ·
              refine x_ib true Z dX4_keep_75 (by decide) ?_
              refine x_goto Z 80 dX4_keep_76 (by decide) ?_
              refine x_zast Z dX4_keep_80 hA (by decide) (by omega) (by omega) ?_
              refine x_iinc (L' := [(5, _), (4, _), (0, _), (1, _), (2, _), (3, _)]) Z dX4_keep_81 rfl (Nat.le_of_ble_eq_true rfl) rfl ?_
              refine x_goto Z 42 dX4_keep_84 (by decide) ?_
              first | exact ih42 (i + 1) _ _ (by omega) ⟨by omega, by omega, hS.frm (P := fun q => q = n35) (fr.rf.set rfl) hne, ws1_s.trans (congrArg some eZ_u), fun j j0 j1 => (by (show (if j = i then true else B1 j) = _; by_cases e : j = i; rw [if_pos e, e]; exact bo_eq c72; rw [if_neg e]; exact hBB j j0 (by omega))), hf0.set0 hnw⟩ | exact ih42 (i + 1) _ _ (by omega) ⟨by omega, by omega, hS.frm (P := fun q => q = n35) (fr.rf.set rfl) hne, ws1_s.trans (congrArg some eZ_u), fun j j0 j1 => (by (show (if j = i then false else B1 j) = _; by_cases e : j = i; rw [if_pos e, e]; exact bo_ne c72; rw [if_neg e]; exact hBB j j0 (by omega))), hf0.set0 hnw⟩
      exact loop42 40 0 _ _ (by omega) ⟨by omega, by omega, hS, hA, fun j j0 j1 => absurd j1 (by omega), hf0⟩
    ·
      have hbad := c28
      refine x_iconst Z dX4_keep_31 ?_
      exact x_iret Z E (by first | exact ⟨_, rfl, rAct.bad2 hS hf0 hbad hc1 hc2⟩ | exact ⟨_, rfl, rAct.bad2 hS hf0 hbad hc1 hc2⟩) dX4_keep_32 (Nat.le_of_ble_eq_true rfl) (Nat.le_of_ble_eq_true rfl)
  refine x_aload_n Z dX4_keep_0 rfl rfl ?_
  refine x_iload_n Z dX4_keep_1 rfl rfl ?_
  refine x_callS Z okX4_is q1071 q1072 dX4_keep_2 (c_X4_is h0 htr (by assumption)) ⟨Nat.le_of_ble_eq_true rfl, Nat.le_of_ble_eq_true rfl, Nat.le_of_ble_eq_true rfl, Nat.le_of_ble_eq_true rfl⟩ rfl rfl (Nat.le_of_ble_eq_true rfl) (fun v9 w9 hR => ?_)
  obtain ⟨o9, rfl, e9, hq⟩ := hR
  refine x_ew e9 ?_
  simp only [Option.toList_some, Option.toList_none, List.cons_append, List.nil_append]
  refine x_ifb_ne Z 12 dX4_keep_5 (by decide) (fun c5 => ?_) (fun c5 => ?_)
  ·
    have f5 := bq_t hq c5
    refine x_ib false Z dX4_keep_12 (by decide) ?_
    refine x_iload_n Z dX4_keep_13 rfl rfl ?_
    refine x_callS Z okX4_isQuestion q1142 q1143 dX4_keep_14 (c_X4_isQuestion h0 htr (by assumption)) ⟨Nat.le_of_ble_eq_true rfl, Nat.le_of_ble_eq_true rfl, Nat.le_of_ble_eq_true rfl, Nat.le_of_ble_eq_true rfl⟩ rfl rfl (Nat.le_of_ble_eq_true rfl) (fun v9 w9 hR => ?_)
    obtain ⟨o9, rfl, e9, hq⟩ := hR
    refine x_ew e9 ?_
    simp only [Option.toList_some, Option.toList_none, List.cons_append, List.nil_append]
    refine x_ifb_ne Z 24 dX4_keep_17 (by decide) (fun c17 => ?_) (fun c17 => ?_)
    ·
      have f17 := bq_t hq c17
      refine x_ib false Z dX4_keep_24 (by decide) ?_
      exact join25 _ _ ⟨(by first | exact ⟨fun _ => by omega, fun _ => rfl⟩ | exact ⟨fun h => absurd h (by decide), fun h => (h (by omega)).elim⟩), (by first | exact ⟨fun _ => by omega, fun _ => rfl⟩ | exact ⟨fun h => absurd h (by decide), fun h => (h (by omega)).elim⟩)⟩
    ·
      have f17 := bq_f hq c17
      refine x_ib true Z dX4_keep_20 (by decide) ?_
      refine x_goto Z 25 dX4_keep_21 (by decide) ?_
      exact join25 _ _ ⟨(by first | exact ⟨fun _ => by omega, fun _ => rfl⟩ | exact ⟨fun h => absurd h (by decide), fun h => (h (by omega)).elim⟩), (by first | exact ⟨fun _ => by omega, fun _ => rfl⟩ | exact ⟨fun h => absurd h (by decide), fun h => (h (by omega)).elim⟩)⟩
  ·
    have f5 := bq_f hq c5
    refine x_ib true Z dX4_keep_8 (by decide) ?_
    refine x_goto Z 13 dX4_keep_9 (by decide) ?_
    refine x_iload_n Z dX4_keep_13 rfl rfl ?_
    refine x_callS Z okX4_isQuestion q1142 q1143 dX4_keep_14 (c_X4_isQuestion h0 htr (by assumption)) ⟨Nat.le_of_ble_eq_true rfl, Nat.le_of_ble_eq_true rfl, Nat.le_of_ble_eq_true rfl, Nat.le_of_ble_eq_true rfl⟩ rfl rfl (Nat.le_of_ble_eq_true rfl) (fun v9 w9 hR => ?_)
    obtain ⟨o9, rfl, e9, hq⟩ := hR
    refine x_ew e9 ?_
    simp only [Option.toList_some, Option.toList_none, List.cons_append, List.nil_append]
    refine x_ifb_ne Z 24 dX4_keep_17 (by decide) (fun c17 => ?_) (fun c17 => ?_)
    ·
      have f17 := bq_t hq c17
      refine x_ib false Z dX4_keep_24 (by decide) ?_
      exact join25 _ _ ⟨(by first | exact ⟨fun _ => by omega, fun _ => rfl⟩ | exact ⟨fun h => absurd h (by decide), fun h => (h (by omega)).elim⟩), (by first | exact ⟨fun _ => by omega, fun _ => rfl⟩ | exact ⟨fun h => absurd h (by decide), fun h => (h (by omega)).elim⟩)⟩
    ·
      have f17 := bq_f hq c17
      refine x_ib true Z dX4_keep_20 (by decide) ?_
      refine x_goto Z 25 dX4_keep_21 (by decide) ?_
      exact join25 _ _ ⟨(by first | exact ⟨fun _ => by omega, fun _ => rfl⟩ | exact ⟨fun h => absurd h (by decide), fun h => (h (by omega)).elim⟩), (by first | exact ⟨fun _ => by omega, fun _ => rfl⟩ | exact ⟨fun h => absurd h (by decide), fun h => (h (by omega)).elim⟩)⟩
abbrev rmc_X4_keepKind : Room := { frames := 2, cells := 1, slots := 30, locals := 45 }
set_option maxRecDepth 100000 in
theorem c_X4_keepKind {l : Launch} {s0 : State} {G : gK} {w : wd} (h0 : gS0 s0) (htr : l.stackTraces = false) {R : rA} {S : rM} {t : Int} {q : Int} {o : Bool} (hS : rS G w R S) (hit : inr t) (hiq : inr q) : gM l s0 G yX4_keepKind [Cond.code yX4_keepKind cX4_keepKind 6 (some .int)] rmc_X4_keepKind [rv R.1, iv t, iv q, iv (b2 o)] w (fun v w' => ∃ z : Int, v = some (iv z) ∧ rAct G w R S (0 ≤ t ∧ t < 3) (0 ≤ q ∧ q < 31) (acSift S.2.1 S.2.2.1 t (fun j => decide (kin (S.2.2.1 t j) = q) == o)) w' z) (noX) := by
  refine g_of h0 htr (by decide +kernel) (Nat.le_of_ble_eq_true rfl) ?_
  intro b Z0 E
  have Z : gAm b l s0 G cX4_keepKind RX4 6 rmc_X4_keepKind := Z0
  refine x_el (L' := [(0, rv R.1), (1, iv t), (2, iv q), (3, iv (b2 o))]) rfl ?_
  obtain ⟨hr1, hr2, ⟨f3, hr3, hf3⟩, hr4, hr5, hr6⟩ := id hS
  have hf0 : fr (rP R S.1) w w := fr.rf
  have join25 : ∀ (c1 c2 : Bool), ((c1 = true ↔ ¬ (0 ≤ t ∧ t < 3)) ∧ (c2 = true ↔ ¬ (0 ≤ q ∧ q < 31))) → gX b s0 G (0) (0) 25 [(0, rv R.1), (1, iv t), (2, iv q), (3, iv (b2 o))] [iv (b2 c2), iv (b2 c1), rv R.1] (w) := by
    intro c1 c2 hv
    obtain ⟨hc1, hc2⟩ := hv
    refine x_callV (ci := 5) (C := RX4) (T := TX4) (N := 7) Z okX4_isThrown q1077 q1079 q11 rfl dX4_keepKind_25 (c_X4_isThrown h0 htr hS) hS.1 ⟨Nat.le_of_ble_eq_true rfl, Nat.le_of_ble_eq_true rfl, Nat.le_of_ble_eq_true rfl, Nat.le_of_ble_eq_true rfl⟩ rfl rfl (Nat.le_of_ble_eq_true rfl) (fun v9 w9 hR => ?_)
    obtain ⟨rfl, hS, hf9⟩ := hR
    have hf0 := hf0.tr hf9
    simp only [Option.toList_some, Option.toList_none, List.cons_append, List.nil_append]
    refine x_ifb_eq Z 33 dX4_keepKind_28 (by decide) (fun c28 => ?_) (fun c28 => ?_)
    ·
      obtain ⟨ea, ec⟩ := bor_f c28
      have o1 := bq_n hc1 ea
      have o2 := bq_n hc2 ec
      subst ea
      subst ec
      obtain ⟨hr1, hr2, ⟨f3, hr3, hf3⟩, hr4, hr5, hr6⟩ := id hS
      obtain ⟨hrt, hn0, hn30, hC⟩ := hr5 t (by omega) (by omega)
      try dsimp only [rT] at hr1 hf3 hr4 hr5 hr6
      try dsimp only [rT] at hrt hn0 hn30 hC
      have en : (rT S (th2 false false)).2.1 t = S.2.1 t := rfl
      have e1 : (rT S (th2 false false)).1 = S.1 := rfl
      have hK : rK (rT S (th2 false false)) (rT S (th2 false false)) t := rK.rf
      refine x_bipush Z dX4_keepKind_33 (by decide +kernel) ?_
      refine x_newZ Z (30) q1159 (by first | rfl | omega) (by omega) (Nat.le_of_ble_eq_true rfl) (Nat.le_of_ble_eq_true rfl) dX4_keepKind_35 (fun n35 hn35 => ?_)
      have hne : ∀ q, rP R (rT S (th2 false false)).1 q → ¬ q = n35 := fun q hq z => hS.nn q hq (by rw [z]; exact hn35)
      have hnw : w n35 = none := hf0.none hn35 (fun z => hne _ z rfl)
      refine x_gen fun w0 hw0 => ?_
      have hS := hS.frm (w' := w0) (P := fun q => q = n35) (by rw [hw0]; exact fr.rf.set rfl) hne
      have hA : w0 n35 = some (eZ G 30 (fun j => b2 ((fun _ => false : Int → Bool) j))) := by { rw [hw0]; exact ws1_s }
      have hf0 : fr (rP R S.1) w w0 := by { rw [hw0]; exact hf0.set0 hnw }
      obtain ⟨hr1, hr2, ⟨f3, hr3, hf3⟩, hr4, hr5, hr6⟩ := id hS
      obtain ⟨hrt, hn0, hn30, hC⟩ := hr5 t (by omega) (by omega)
      try dsimp only [rT] at hr1 hf3 hr4 hr5 hr6
      try dsimp only [rT] at hrt hn0 hn30 hC
      refine x_astore (L' := [(4, _), (0, _), (1, _), (2, _), (3, _)]) Z dX4_keepKind_37 (Nat.le_of_ble_eq_true rfl) rfl ?_
      refine x_iconst Z dX4_keepKind_39 ?_
      refine x_istore (L' := [(5, _), (4, _), (0, _), (1, _), (2, _), (3, _)]) Z dX4_keepKind_40 (Nat.le_of_ble_eq_true rfl) rfl ?_
      have loop42 : ∀ (fu : Nat) (i : Int) (B1 : Int → Bool) (w1 : wd), S.2.1 t - i < (fu : Int) → (0 ≤ i ∧ i ≤ S.2.1 t ∧ rS G w1 R (rT S (th2 false false)) ∧ w1 n35 = some (eZ G 30 (fun j => b2 (B1 j))) ∧ (∀ j, 0 ≤ j → j < i → B1 j = (decide (kin (S.2.2.1 t j) = q) == o)) ∧ fr (rP R S.1) w w1) → gX b s0 G (1) (30) 42 [(5, iv i), (4, rv n35), (0, rv R.1), (1, iv t), (2, iv q), (3, iv (b2 o))] [] (w1) := by
        intro fu; induction fu with
        | zero => intro i B1 w1 hm hv; exact absurd hm (by omega)
        | succ fu ih42 =>
          intro i B1 w1 hm hv
          obtain ⟨hi0, hin, hS, hA, hBB, hf0⟩ := hv
          obtain ⟨hr1, hr2, ⟨f3, hr3, hf3⟩, hr4, hr5, hr6⟩ := id hS
          obtain ⟨hrt, hn0, hn30, hC⟩ := hr5 t (by omega) (by omega)
          try dsimp only [rT] at hr1 hf3 hr4 hr5 hr6
          try dsimp only [rT] at hrt hn0 hn30 hC
          have hCi := hC i
          have hki := kin_in (S.2.2.1 t i)
          refine x_iload Z dX4_keepKind_42 rfl ?_
          refine x_aload_n Z dX4_keepKind_44 rfl rfl ?_
          refine x_getf (ci := 5) (j := 2) (C := RX4) (T := TX4) (N := 7) Z inX4g rfl (by decide) q1043 rfl dX4_keepKind_45 (by assumption) rfl ?_
          refine x_iload_n Z dX4_keepKind_48 rfl rfl ?_
          refine x_iald Z dX4_keepKind_49 (by assumption) (by omega) (by omega) (by omega) ?_
          refine x_icmp_ge Z 96 dX4_keepKind_50 (by decide) ⟨by omega, by omega⟩ ⟨by omega, by omega⟩ (fun c50 => ?_) (fun c50 => ?_)
          ·
            refine x_aload_n Z dX4_keepKind_96 rfl rfl ?_
            refine x_iload_n Z dX4_keepKind_97 rfl rfl ?_
            refine x_aload Z dX4_keepKind_98 rfl ?_
            refine x_callV (ci := 5) (C := RX4) (T := TX4) (N := 7) Z okX4_sifted q1155 q1157 q18 rfl dX4_keepKind_100 (c_X4_sifted h0 htr hS (by omega) (by omega) (by assumption) (by assumption)) hS.1 ⟨Nat.le_of_ble_eq_true rfl, Nat.le_of_ble_eq_true rfl, Nat.le_of_ble_eq_true rfl, Nat.le_of_ble_eq_true rfl⟩ rfl rfl (Nat.le_of_ble_eq_true rfl) (fun v9 w9 hR => ?_)
            obtain ⟨z, rfl, S9, hV9, hT9, hd9⟩ := hR
            simp only [Option.toList_some, Option.toList_none, List.cons_append, List.nil_append]
            exact x_iret Z E (⟨_, rfl, rAct.ok (rV.tr (show rV G w R S w1 (rT S (th2 false false)) from ⟨hS, rfl, hf0, fun x hx => Or.inl hx⟩) hV9) hT9 o1 o2 (rDo.eq (acSift_cg (n := S.2.1) (m := S.2.1) (C := S.2.2.1) (D := S.2.2.1) (fun _ _ _ => ⟨rfl, tEq.rf⟩) (by omega) (by omega) hn0 (fun j j0 jn => hBB j j0 (by omega))) hd9)⟩) dX4_keepKind_103 (Nat.le_of_ble_eq_true rfl) (Nat.le_of_ble_eq_true rfl)
          ·
            refine x_aload Z dX4_keepKind_53 rfl ?_
            refine x_iload Z dX4_keepKind_55 rfl ?_
            refine x_aload_n Z dX4_keepKind_57 rfl rfl ?_
            refine x_getf (ci := 5) (j := 0) (C := RX4) (T := TX4) (N := 7) Z inX4g rfl (by decide) q1041 rfl dX4_keepKind_58 (by assumption) rfl ?_
            refine x_aload_n Z dX4_keepKind_61 rfl rfl ?_
            refine x_getf (ci := 5) (j := 1) (C := RX4) (T := TX4) (N := 7) Z inX4g rfl (by decide) q1042 rfl dX4_keepKind_62 (by assumption) rfl ?_
            refine x_iload_n Z dX4_keepKind_65 rfl rfl ?_
            refine x_aaldR Z dX4_keepKind_66 hr3 (by decide) (by omega) (by omega) (hf3 t (by omega) (by omega)) ?_
            refine x_iload Z dX4_keepKind_67 rfl ?_
            refine x_iald Z dX4_keepKind_69 (by assumption) (by omega) (by omega) (by omega) ?_
            refine x_iald Z dX4_keepKind_70 (by assumption) (by omega) (by omega) (by omega) ?_
            refine x_iload_n Z dX4_keepKind_71 rfl rfl ?_
            refine x_icmp_ne Z 79 dX4_keepKind_72 (by decide) ⟨by omega, by omega⟩ ⟨by omega, by omega⟩ (fun c72 => ?_) (fun c72 => ?_)
            ·
              refine x_ib false Z dX4_keepKind_79 (by decide) ?_
              refine x_iload_n Z dX4_keepKind_80 rfl rfl ?_
              refine x_icmpb_ne Z 88 dX4_keepKind_81 (by decide) (fun c81 => ?_) (fun c81 => ?_)
              ·
                refine x_ib false Z dX4_keepKind_88 (by decide) ?_
                refine x_zast Z dX4_keepKind_89 hA (by decide) (by omega) (by omega) ?_
                refine x_iinc (L' := [(5, _), (4, _), (0, _), (1, _), (2, _), (3, _)]) Z dX4_keepKind_90 rfl (Nat.le_of_ble_eq_true rfl) rfl ?_
                refine x_goto Z 42 dX4_keepKind_93 (by decide) ?_
                first | exact ih42 (i + 1) _ _ (by omega) ⟨by omega, by omega, hS.frm (P := fun q => q = n35) (fr.rf.set rfl) hne, ws1_s.trans (congrArg some eZ_u), fun j j0 j1 => (by (show (if j = i then true else B1 j) = _; by_cases e : j = i; rw [if_pos e, e]; exact bo_eq ((decide_eq_true c72).trans c81); rw [if_neg e]; exact hBB j j0 (by omega))), hf0.set0 hnw⟩ | exact ih42 (i + 1) _ _ (by omega) ⟨by omega, by omega, hS.frm (P := fun q => q = n35) (fr.rf.set rfl) hne, ws1_s.trans (congrArg some eZ_u), fun j j0 j1 => (by (show (if j = i then true else B1 j) = _; by_cases e : j = i; rw [if_pos e, e]; exact bo_eq ((decide_eq_false c72).trans c81); rw [if_neg e]; exact hBB j j0 (by omega))), hf0.set0 hnw⟩ | exact ih42 (i + 1) _ _ (by omega) ⟨by omega, by omega, hS.frm (P := fun q => q = n35) (fr.rf.set rfl) hne, ws1_s.trans (congrArg some eZ_u), fun j j0 j1 => (by (show (if j = i then false else B1 j) = _; by_cases e : j = i; rw [if_pos e, e]; exact bo_ne (fun h => c81 ((decide_eq_true c72).symm.trans h)); rw [if_neg e]; exact hBB j j0 (by omega))), hf0.set0 hnw⟩ | exact ih42 (i + 1) _ _ (by omega) ⟨by omega, by omega, hS.frm (P := fun q => q = n35) (fr.rf.set rfl) hne, ws1_s.trans (congrArg some eZ_u), fun j j0 j1 => (by (show (if j = i then false else B1 j) = _; by_cases e : j = i; rw [if_pos e, e]; exact bo_ne (fun h => c81 ((decide_eq_false c72).symm.trans h)); rw [if_neg e]; exact hBB j j0 (by omega))), hf0.set0 hnw⟩
              ·
                refine x_ib true Z dX4_keepKind_84 (by decide) ?_
                refine x_goto Z 89 dX4_keepKind_85 (by decide) ?_
                refine x_zast Z dX4_keepKind_89 hA (by decide) (by omega) (by omega) ?_
                refine x_iinc (L' := [(5, _), (4, _), (0, _), (1, _), (2, _), (3, _)]) Z dX4_keepKind_90 rfl (Nat.le_of_ble_eq_true rfl) rfl ?_
                refine x_goto Z 42 dX4_keepKind_93 (by decide) ?_
                first | exact ih42 (i + 1) _ _ (by omega) ⟨by omega, by omega, hS.frm (P := fun q => q = n35) (fr.rf.set rfl) hne, ws1_s.trans (congrArg some eZ_u), fun j j0 j1 => (by (show (if j = i then true else B1 j) = _; by_cases e : j = i; rw [if_pos e, e]; exact bo_eq ((decide_eq_true c72).trans c81); rw [if_neg e]; exact hBB j j0 (by omega))), hf0.set0 hnw⟩ | exact ih42 (i + 1) _ _ (by omega) ⟨by omega, by omega, hS.frm (P := fun q => q = n35) (fr.rf.set rfl) hne, ws1_s.trans (congrArg some eZ_u), fun j j0 j1 => (by (show (if j = i then true else B1 j) = _; by_cases e : j = i; rw [if_pos e, e]; exact bo_eq ((decide_eq_false c72).trans c81); rw [if_neg e]; exact hBB j j0 (by omega))), hf0.set0 hnw⟩ | exact ih42 (i + 1) _ _ (by omega) ⟨by omega, by omega, hS.frm (P := fun q => q = n35) (fr.rf.set rfl) hne, ws1_s.trans (congrArg some eZ_u), fun j j0 j1 => (by (show (if j = i then false else B1 j) = _; by_cases e : j = i; rw [if_pos e, e]; exact bo_ne (fun h => c81 ((decide_eq_true c72).symm.trans h)); rw [if_neg e]; exact hBB j j0 (by omega))), hf0.set0 hnw⟩ | exact ih42 (i + 1) _ _ (by omega) ⟨by omega, by omega, hS.frm (P := fun q => q = n35) (fr.rf.set rfl) hne, ws1_s.trans (congrArg some eZ_u), fun j j0 j1 => (by (show (if j = i then false else B1 j) = _; by_cases e : j = i; rw [if_pos e, e]; exact bo_ne (fun h => c81 ((decide_eq_false c72).symm.trans h)); rw [if_neg e]; exact hBB j j0 (by omega))), hf0.set0 hnw⟩
            ·
              refine x_ib true Z dX4_keepKind_75 (by decide) ?_
              refine x_goto Z 80 dX4_keepKind_76 (by decide) ?_
              refine x_iload_n Z dX4_keepKind_80 rfl rfl ?_
              refine x_icmpb_ne Z 88 dX4_keepKind_81 (by decide) (fun c81 => ?_) (fun c81 => ?_)
              ·
                refine x_ib false Z dX4_keepKind_88 (by decide) ?_
                refine x_zast Z dX4_keepKind_89 hA (by decide) (by omega) (by omega) ?_
                refine x_iinc (L' := [(5, _), (4, _), (0, _), (1, _), (2, _), (3, _)]) Z dX4_keepKind_90 rfl (Nat.le_of_ble_eq_true rfl) rfl ?_
                refine x_goto Z 42 dX4_keepKind_93 (by decide) ?_
                first | exact ih42 (i + 1) _ _ (by omega) ⟨by omega, by omega, hS.frm (P := fun q => q = n35) (fr.rf.set rfl) hne, ws1_s.trans (congrArg some eZ_u), fun j j0 j1 => (by (show (if j = i then true else B1 j) = _; by_cases e : j = i; rw [if_pos e, e]; exact bo_eq ((decide_eq_true c72).trans c81); rw [if_neg e]; exact hBB j j0 (by omega))), hf0.set0 hnw⟩ | exact ih42 (i + 1) _ _ (by omega) ⟨by omega, by omega, hS.frm (P := fun q => q = n35) (fr.rf.set rfl) hne, ws1_s.trans (congrArg some eZ_u), fun j j0 j1 => (by (show (if j = i then true else B1 j) = _; by_cases e : j = i; rw [if_pos e, e]; exact bo_eq ((decide_eq_false c72).trans c81); rw [if_neg e]; exact hBB j j0 (by omega))), hf0.set0 hnw⟩ | exact ih42 (i + 1) _ _ (by omega) ⟨by omega, by omega, hS.frm (P := fun q => q = n35) (fr.rf.set rfl) hne, ws1_s.trans (congrArg some eZ_u), fun j j0 j1 => (by (show (if j = i then false else B1 j) = _; by_cases e : j = i; rw [if_pos e, e]; exact bo_ne (fun h => c81 ((decide_eq_true c72).symm.trans h)); rw [if_neg e]; exact hBB j j0 (by omega))), hf0.set0 hnw⟩ | exact ih42 (i + 1) _ _ (by omega) ⟨by omega, by omega, hS.frm (P := fun q => q = n35) (fr.rf.set rfl) hne, ws1_s.trans (congrArg some eZ_u), fun j j0 j1 => (by (show (if j = i then false else B1 j) = _; by_cases e : j = i; rw [if_pos e, e]; exact bo_ne (fun h => c81 ((decide_eq_false c72).symm.trans h)); rw [if_neg e]; exact hBB j j0 (by omega))), hf0.set0 hnw⟩
              ·
                refine x_ib true Z dX4_keepKind_84 (by decide) ?_
                refine x_goto Z 89 dX4_keepKind_85 (by decide) ?_
                refine x_zast Z dX4_keepKind_89 hA (by decide) (by omega) (by omega) ?_
                refine x_iinc (L' := [(5, _), (4, _), (0, _), (1, _), (2, _), (3, _)]) Z dX4_keepKind_90 rfl (Nat.le_of_ble_eq_true rfl) rfl ?_
                refine x_goto Z 42 dX4_keepKind_93 (by decide) ?_
                first | exact ih42 (i + 1) _ _ (by omega) ⟨by omega, by omega, hS.frm (P := fun q => q = n35) (fr.rf.set rfl) hne, ws1_s.trans (congrArg some eZ_u), fun j j0 j1 => (by (show (if j = i then true else B1 j) = _; by_cases e : j = i; rw [if_pos e, e]; exact bo_eq ((decide_eq_true c72).trans c81); rw [if_neg e]; exact hBB j j0 (by omega))), hf0.set0 hnw⟩ | exact ih42 (i + 1) _ _ (by omega) ⟨by omega, by omega, hS.frm (P := fun q => q = n35) (fr.rf.set rfl) hne, ws1_s.trans (congrArg some eZ_u), fun j j0 j1 => (by (show (if j = i then true else B1 j) = _; by_cases e : j = i; rw [if_pos e, e]; exact bo_eq ((decide_eq_false c72).trans c81); rw [if_neg e]; exact hBB j j0 (by omega))), hf0.set0 hnw⟩ | exact ih42 (i + 1) _ _ (by omega) ⟨by omega, by omega, hS.frm (P := fun q => q = n35) (fr.rf.set rfl) hne, ws1_s.trans (congrArg some eZ_u), fun j j0 j1 => (by (show (if j = i then false else B1 j) = _; by_cases e : j = i; rw [if_pos e, e]; exact bo_ne (fun h => c81 ((decide_eq_true c72).symm.trans h)); rw [if_neg e]; exact hBB j j0 (by omega))), hf0.set0 hnw⟩ | exact ih42 (i + 1) _ _ (by omega) ⟨by omega, by omega, hS.frm (P := fun q => q = n35) (fr.rf.set rfl) hne, ws1_s.trans (congrArg some eZ_u), fun j j0 j1 => (by (show (if j = i then false else B1 j) = _; by_cases e : j = i; rw [if_pos e, e]; exact bo_ne (fun h => c81 ((decide_eq_false c72).symm.trans h)); rw [if_neg e]; exact hBB j j0 (by omega))), hf0.set0 hnw⟩
      exact loop42 40 0 _ _ (by omega) ⟨by omega, by omega, hS, hA, fun j j0 j1 => absurd j1 (by omega), hf0⟩
    ·
      have hbad := c28
      refine x_iconst Z dX4_keepKind_31 ?_
      exact x_iret Z E (by first | exact ⟨_, rfl, rAct.bad2 hS hf0 hbad hc1 hc2⟩ | exact ⟨_, rfl, rAct.bad2 hS hf0 hbad hc1 hc2⟩) dX4_keepKind_32 (Nat.le_of_ble_eq_true rfl) (Nat.le_of_ble_eq_true rfl)
  refine x_aload_n Z dX4_keepKind_0 rfl rfl ?_
  refine x_iload_n Z dX4_keepKind_1 rfl rfl ?_
  refine x_callS Z okX4_is q1071 q1072 dX4_keepKind_2 (c_X4_is h0 htr (by assumption)) ⟨Nat.le_of_ble_eq_true rfl, Nat.le_of_ble_eq_true rfl, Nat.le_of_ble_eq_true rfl, Nat.le_of_ble_eq_true rfl⟩ rfl rfl (Nat.le_of_ble_eq_true rfl) (fun v9 w9 hR => ?_)
  obtain ⟨o9, rfl, e9, hq⟩ := hR
  refine x_ew e9 ?_
  simp only [Option.toList_some, Option.toList_none, List.cons_append, List.nil_append]
  refine x_ifb_ne Z 12 dX4_keepKind_5 (by decide) (fun c5 => ?_) (fun c5 => ?_)
  ·
    have f5 := bq_t hq c5
    refine x_ib false Z dX4_keepKind_12 (by decide) ?_
    refine x_iload_n Z dX4_keepKind_13 rfl rfl ?_
    refine x_callS Z okX4_isKind q1164 q1165 dX4_keepKind_14 (c_X4_isKind h0 htr (by assumption)) ⟨Nat.le_of_ble_eq_true rfl, Nat.le_of_ble_eq_true rfl, Nat.le_of_ble_eq_true rfl, Nat.le_of_ble_eq_true rfl⟩ rfl rfl (Nat.le_of_ble_eq_true rfl) (fun v9 w9 hR => ?_)
    obtain ⟨o9, rfl, e9, hq⟩ := hR
    refine x_ew e9 ?_
    simp only [Option.toList_some, Option.toList_none, List.cons_append, List.nil_append]
    refine x_ifb_ne Z 24 dX4_keepKind_17 (by decide) (fun c17 => ?_) (fun c17 => ?_)
    ·
      have f17 := bq_t hq c17
      refine x_ib false Z dX4_keepKind_24 (by decide) ?_
      exact join25 _ _ ⟨(by first | exact ⟨fun _ => by omega, fun _ => rfl⟩ | exact ⟨fun h => absurd h (by decide), fun h => (h (by omega)).elim⟩), (by first | exact ⟨fun _ => by omega, fun _ => rfl⟩ | exact ⟨fun h => absurd h (by decide), fun h => (h (by omega)).elim⟩)⟩
    ·
      have f17 := bq_f hq c17
      refine x_ib true Z dX4_keepKind_20 (by decide) ?_
      refine x_goto Z 25 dX4_keepKind_21 (by decide) ?_
      exact join25 _ _ ⟨(by first | exact ⟨fun _ => by omega, fun _ => rfl⟩ | exact ⟨fun h => absurd h (by decide), fun h => (h (by omega)).elim⟩), (by first | exact ⟨fun _ => by omega, fun _ => rfl⟩ | exact ⟨fun h => absurd h (by decide), fun h => (h (by omega)).elim⟩)⟩
  ·
    have f5 := bq_f hq c5
    refine x_ib true Z dX4_keepKind_8 (by decide) ?_
    refine x_goto Z 13 dX4_keepKind_9 (by decide) ?_
    refine x_iload_n Z dX4_keepKind_13 rfl rfl ?_
    refine x_callS Z okX4_isKind q1164 q1165 dX4_keepKind_14 (c_X4_isKind h0 htr (by assumption)) ⟨Nat.le_of_ble_eq_true rfl, Nat.le_of_ble_eq_true rfl, Nat.le_of_ble_eq_true rfl, Nat.le_of_ble_eq_true rfl⟩ rfl rfl (Nat.le_of_ble_eq_true rfl) (fun v9 w9 hR => ?_)
    obtain ⟨o9, rfl, e9, hq⟩ := hR
    refine x_ew e9 ?_
    simp only [Option.toList_some, Option.toList_none, List.cons_append, List.nil_append]
    refine x_ifb_ne Z 24 dX4_keepKind_17 (by decide) (fun c17 => ?_) (fun c17 => ?_)
    ·
      have f17 := bq_t hq c17
      refine x_ib false Z dX4_keepKind_24 (by decide) ?_
      exact join25 _ _ ⟨(by first | exact ⟨fun _ => by omega, fun _ => rfl⟩ | exact ⟨fun h => absurd h (by decide), fun h => (h (by omega)).elim⟩), (by first | exact ⟨fun _ => by omega, fun _ => rfl⟩ | exact ⟨fun h => absurd h (by decide), fun h => (h (by omega)).elim⟩)⟩
    ·
      have f17 := bq_f hq c17
      refine x_ib true Z dX4_keepKind_20 (by decide) ?_
      refine x_goto Z 25 dX4_keepKind_21 (by decide) ?_
      exact join25 _ _ ⟨(by first | exact ⟨fun _ => by omega, fun _ => rfl⟩ | exact ⟨fun h => absurd h (by decide), fun h => (h (by omega)).elim⟩), (by first | exact ⟨fun _ => by omega, fun _ => rfl⟩ | exact ⟨fun h => absurd h (by decide), fun h => (h (by omega)).elim⟩)⟩
abbrev rmc_X4_mend : Room := { frames := 3, cells := 1, slots := 30, locals := 66 }
set_option maxRecDepth 100000 in
theorem c_X4_mend {l : Launch} {s0 : State} {G : gK} {w : wd} (h0 : gS0 s0) (htr : l.stackTraces = false) {R : rA} {S : rM} {t : Int} (hS : rS G w R S) (hit : inr t) : gM l s0 G yX4_mend [Cond.code yX4_mend cX4_mend 5 (some .int)] rmc_X4_mend [rv R.1, iv t] w (fun v w' => ∃ z : Int, v = some (iv z) ∧ rAct G w R S (0 ≤ t ∧ t < 3) (True) (acSift S.2.1 S.2.2.1 t (mnd (S.2.1 t) (S.2.2.1 t))) w' z) (noX) := by
  refine g_of h0 htr (by decide +kernel) (Nat.le_of_ble_eq_true rfl) ?_
  intro b Z0 E
  have Z : gAm b l s0 G cX4_mend RX4 5 rmc_X4_mend := Z0
  refine x_el (L' := [(0, rv R.1), (1, iv t)]) rfl ?_
  obtain ⟨hr1, hr2, ⟨f3, hr3, hf3⟩, hr4, hr5, hr6⟩ := id hS
  have hf0 : fr (rP R S.1) w w := fr.rf
  have join13 : ∀ (c1 : Bool), (c1 = true ↔ ¬ (0 ≤ t ∧ t < 3)) → gX b s0 G (0) (0) 13 [(0, rv R.1), (1, iv t)] [iv (b2 c1), rv R.1] (w) := by
    intro c1 hv
    have hc1 := hv
    refine x_callV (ci := 5) (C := RX4) (T := TX4) (N := 7) Z okX4_isThrown_ q1106 q1108 q15 rfl dX4_mend_13 (c_X4_isThrown_ h0 htr hS) hS.1 ⟨Nat.le_of_ble_eq_true rfl, Nat.le_of_ble_eq_true rfl, Nat.le_of_ble_eq_true rfl, Nat.le_of_ble_eq_true rfl⟩ rfl rfl (Nat.le_of_ble_eq_true rfl) (fun v9 w9 hR => ?_)
    obtain ⟨rfl, hS, hf9⟩ := hR
    have hf0 := hf0.tr hf9
    simp only [Option.toList_some, Option.toList_none, List.cons_append, List.nil_append]
    refine x_ifb_eq Z 21 dX4_mend_16 (by decide) (fun c16 => ?_) (fun c16 => ?_)
    ·
      have ea := c16
      have o1 := bq_n hc1 ea
      subst ea
      obtain ⟨hr1, hr2, ⟨f3, hr3, hf3⟩, hr4, hr5, hr6⟩ := id hS
      obtain ⟨hrt, hn0, hn30, hC⟩ := hr5 t (by omega) (by omega)
      try dsimp only [rT] at hr1 hf3 hr4 hr5 hr6
      try dsimp only [rT] at hrt hn0 hn30 hC
      have en : (rT S (th2 false false)).2.1 t = S.2.1 t := rfl
      have e1 : (rT S (th2 false false)).1 = S.1 := rfl
      have hK : rK (rT S (th2 false false)) (rT S (th2 false false)) t := rK.rf
      refine x_bipush Z dX4_mend_21 (by decide +kernel) ?_
      refine x_newZ Z (30) q1159 (by first | rfl | omega) (by omega) (Nat.le_of_ble_eq_true rfl) (Nat.le_of_ble_eq_true rfl) dX4_mend_23 (fun n23 hn23 => ?_)
      have hne : ∀ q, rP R (rT S (th2 false false)).1 q → ¬ q = n23 := fun q hq z => hS.nn q hq (by rw [z]; exact hn23)
      have hnw : w n23 = none := hf0.none hn23 (fun z => hne _ z rfl)
      refine x_gen fun w0 hw0 => ?_
      have hS := hS.frm (w' := w0) (P := fun q => q = n23) (by rw [hw0]; exact fr.rf.set rfl) hne
      have hA : w0 n23 = some (eZ G 30 (fun j => b2 ((fun _ => false : Int → Bool) j))) := by { rw [hw0]; exact ws1_s }
      have hf0 : fr (rP R S.1) w w0 := by { rw [hw0]; exact hf0.set0 hnw }
      obtain ⟨hr1, hr2, ⟨f3, hr3, hf3⟩, hr4, hr5, hr6⟩ := id hS
      obtain ⟨hrt, hn0, hn30, hC⟩ := hr5 t (by omega) (by omega)
      try dsimp only [rT] at hr1 hf3 hr4 hr5 hr6
      try dsimp only [rT] at hrt hn0 hn30 hC
      refine x_astore_n (L' := [(2, _), (0, _), (1, _)]) Z dX4_mend_25 rfl (Nat.le_of_ble_eq_true rfl) rfl ?_
      refine x_bipush Z dX4_mend_26 (by decide +kernel) ?_
      refine x_istore_n (L' := [(3, _), (2, _), (0, _), (1, _)]) Z dX4_mend_28 rfl (Nat.le_of_ble_eq_true rfl) rfl ?_
      refine x_iconst Z dX4_mend_29 ?_
      refine x_istore (L' := [(4, _), (3, _), (2, _), (0, _), (1, _)]) Z dX4_mend_30 (Nat.le_of_ble_eq_true rfl) rfl ?_
      have loop32 : ∀ (fu : Nat) (i q : Int) (B1 : Int → Bool) (w1 : wd), S.2.1 t - i < (fu : Int) → (0 ≤ i ∧ i ≤ S.2.1 t ∧ ((q = 11 ∧ i ≤ (findI (fun i => so (S.2.2.1 t i) 11) 0 (S.2.1 t))) ∨ (q = 12 ∧ (findI (fun i => so (S.2.2.1 t i) 11) 0 (S.2.1 t)) < i)) ∧ rS G w1 R (rT S (th2 false false)) ∧ w1 n23 = some (eZ G 30 (fun j => b2 (B1 j))) ∧ (∀ j, 0 ≤ j → j < i → B1 j = mnd (S.2.1 t) (S.2.2.1 t) j) ∧ fr (rP R S.1) w w1) → gX b s0 G (1) (30) 32 [(4, iv i), (3, iv q), (2, rv n23), (0, rv R.1), (1, iv t)] [] (w1) := by
        intro fu; induction fu with
        | zero => intro i q B1 w1 hm hv; exact absurd hm (by omega)
        | succ fu ih32 =>
          intro i q B1 w1 hm hv
          obtain ⟨hi0, hin, hq2, hS, hA, hBB, hf0⟩ := hv
          obtain ⟨hr1, hr2, ⟨f3, hr3, hf3⟩, hr4, hr5, hr6⟩ := id hS
          obtain ⟨hrt, hn0, hn30, hC⟩ := hr5 t (by omega) (by omega)
          try dsimp only [rT] at hr1 hf3 hr4 hr5 hr6
          try dsimp only [rT] at hrt hn0 hn30 hC
          have hCi := hC i
          refine x_iload Z dX4_mend_32 rfl ?_
          refine x_aload_n Z dX4_mend_34 rfl rfl ?_
          refine x_getf (ci := 5) (j := 2) (C := RX4) (T := TX4) (N := 7) Z inX4g rfl (by decide) q1043 rfl dX4_mend_35 (by assumption) rfl ?_
          refine x_iload_n Z dX4_mend_38 rfl rfl ?_
          refine x_iald Z dX4_mend_39 (by assumption) (by omega) (by omega) (by omega) ?_
          refine x_icmp_ge Z 77 dX4_mend_40 (by decide) ⟨by omega, by omega⟩ ⟨by omega, by omega⟩ (fun c40 => ?_) (fun c40 => ?_)
          ·
            refine x_aload_n Z dX4_mend_77 rfl rfl ?_
            refine x_iload_n Z dX4_mend_78 rfl rfl ?_
            refine x_aload_n Z dX4_mend_79 rfl rfl ?_
            refine x_callV (ci := 5) (C := RX4) (T := TX4) (N := 7) Z okX4_sifted q1155 q1157 q18 rfl dX4_mend_80 (c_X4_sifted h0 htr hS (by omega) (by omega) (by assumption) (by assumption)) hS.1 ⟨Nat.le_of_ble_eq_true rfl, Nat.le_of_ble_eq_true rfl, Nat.le_of_ble_eq_true rfl, Nat.le_of_ble_eq_true rfl⟩ rfl rfl (Nat.le_of_ble_eq_true rfl) (fun v9 w9 hR => ?_)
            obtain ⟨z, rfl, S9, hV9, hT9, hd9⟩ := hR
            simp only [Option.toList_some, Option.toList_none, List.cons_append, List.nil_append]
            exact x_iret Z E (⟨_, rfl, rAct.ok (rV.tr (show rV G w R S w1 (rT S (th2 false false)) from ⟨hS, rfl, hf0, fun x hx => Or.inl hx⟩) hV9) hT9 o1 trivial (rDo.eq (acSift_cg (n := S.2.1) (m := S.2.1) (C := S.2.2.1) (D := S.2.2.1) (fun _ _ _ => ⟨rfl, tEq.rf⟩) (by omega) (by omega) hn0 (fun j j0 jn => hBB j j0 (by omega))) hd9)⟩) dX4_mend_83 (Nat.le_of_ble_eq_true rfl) (Nat.le_of_ble_eq_true rfl)
          ·
            have hq : q = 11 ∨ q = 12 := by omega
            have hmi : so (S.2.2.1 t i) q = mnd (S.2.1 t) (S.2.2.1 t) i := by { rcases hq2 with ⟨e, h⟩ | ⟨e, h⟩; rw [e]; exact (mnd_a h).symm; rw [e]; exact (mnd_b h).symm }
            have hq3 : so (S.2.2.1 t i) q = true → (findI (fun i => so (S.2.2.1 t i) 11) 0 (S.2.1 t)) < i + 1 := fun c => by { rcases hq2 with ⟨e, h⟩ | ⟨e, h⟩; rw [e] at c; exact mnd_t hi0 h c; omega }
            have hq4 : so (S.2.2.1 t i) q = false → ((q = 11 ∧ i + 1 ≤ (findI (fun i => so (S.2.2.1 t i) 11) 0 (S.2.1 t))) ∨ (q = 12 ∧ (findI (fun i => so (S.2.2.1 t i) 11) 0 (S.2.1 t)) < i + 1)) := fun c => by { rcases hq2 with ⟨e, h⟩ | ⟨e, h⟩; rw [e] at c; exact Or.inl ⟨e, mnd_f hi0 (by omega) h c⟩; exact Or.inr ⟨e, by omega⟩ }
            refine x_aload_n Z dX4_mend_43 rfl rfl ?_
            refine x_iload Z dX4_mend_44 rfl ?_
            refine x_aload_n Z dX4_mend_46 rfl rfl ?_
            refine x_aload_n Z dX4_mend_47 rfl rfl ?_
            refine x_getf (ci := 5) (j := 1) (C := RX4) (T := TX4) (N := 7) Z inX4g rfl (by decide) q1042 rfl dX4_mend_48 (by assumption) rfl ?_
            refine x_iload_n Z dX4_mend_51 rfl rfl ?_
            refine x_aaldR Z dX4_mend_52 hr3 (by decide) (by omega) (by omega) (hf3 t (by omega) (by omega)) ?_
            refine x_iload Z dX4_mend_53 rfl ?_
            refine x_iald Z dX4_mend_55 (by assumption) (by omega) (by omega) (by omega) ?_
            refine x_iload_n Z dX4_mend_56 rfl rfl ?_
            refine x_callV (ci := 5) (C := RX4) (T := TX4) (N := 7) Z okX4_isSo q1145 q1147 q17 rfl dX4_mend_57 (c_X4_isSo h0 htr hS (by omega) (by omega) (by omega) (by omega)) hS.1 ⟨Nat.le_of_ble_eq_true rfl, Nat.le_of_ble_eq_true rfl, Nat.le_of_ble_eq_true rfl, Nat.le_of_ble_eq_true rfl⟩ rfl rfl (Nat.le_of_ble_eq_true rfl) (fun v9 w9 hR => ?_)
            obtain ⟨rfl, e9⟩ := hR
            refine x_ew e9 ?_
            simp only [Option.toList_some, Option.toList_none, List.cons_append, List.nil_append]
            refine x_zast Z dX4_mend_60 hA (by decide) (by omega) (by omega) ?_
            refine x_aload_n Z dX4_mend_61 rfl rfl ?_
            refine x_iload Z dX4_mend_62 rfl ?_
            refine x_zald Z dX4_mend_64 ws1_s (by decide) (by omega) (by omega) ?_
            refine x_tp (y := b2 (so (S.2.2.1 t i) q)) uF_s ?_
            refine x_ifb_eq Z 71 dX4_mend_65 (by decide) (fun c65 => ?_) (fun c65 => ?_)
            ·
              refine x_iinc (L' := [(4, _), (3, _), (2, _), (0, _), (1, _)]) Z dX4_mend_71 rfl (Nat.le_of_ble_eq_true rfl) rfl ?_
              refine x_goto Z 32 dX4_mend_74 (by decide) ?_
              first | exact ih32 (i + 1) 12 _ _ (by omega) ⟨by omega, by omega, Or.inr ⟨rfl, hq3 c65⟩, hS.frm (P := fun q => q = n23) (fr.rf.set rfl) hne, ws1_s.trans (congrArg some eZ_u), fun j j0 j1 => (by (show (if j = i then so (S.2.2.1 t i) q else B1 j) = _; by_cases e : j = i; rw [if_pos e, e]; exact hmi; rw [if_neg e]; exact hBB j j0 (by omega))), hf0.set0 hnw⟩ | exact ih32 (i + 1) q _ _ (by omega) ⟨by omega, by omega, hq4 c65, hS.frm (P := fun q => q = n23) (fr.rf.set rfl) hne, ws1_s.trans (congrArg some eZ_u), fun j j0 j1 => (by (show (if j = i then so (S.2.2.1 t i) q else B1 j) = _; by_cases e : j = i; rw [if_pos e, e]; exact hmi; rw [if_neg e]; exact hBB j j0 (by omega))), hf0.set0 hnw⟩
            ·
              refine x_bipush Z dX4_mend_68 (by decide +kernel) ?_
              refine x_istore_n (L' := [(3, _), (4, _), (2, _), (0, _), (1, _)]) Z dX4_mend_70 rfl (Nat.le_of_ble_eq_true rfl) rfl ?_
              refine x_iinc (L' := [(4, _), (3, _), (2, _), (0, _), (1, _)]) Z dX4_mend_71 rfl (Nat.le_of_ble_eq_true rfl) rfl ?_
              refine x_goto Z 32 dX4_mend_74 (by decide) ?_
              first | exact ih32 (i + 1) 12 _ _ (by omega) ⟨by omega, by omega, Or.inr ⟨rfl, hq3 c65⟩, hS.frm (P := fun q => q = n23) (fr.rf.set rfl) hne, ws1_s.trans (congrArg some eZ_u), fun j j0 j1 => (by (show (if j = i then so (S.2.2.1 t i) q else B1 j) = _; by_cases e : j = i; rw [if_pos e, e]; exact hmi; rw [if_neg e]; exact hBB j j0 (by omega))), hf0.set0 hnw⟩ | exact ih32 (i + 1) q _ _ (by omega) ⟨by omega, by omega, hq4 c65, hS.frm (P := fun q => q = n23) (fr.rf.set rfl) hne, ws1_s.trans (congrArg some eZ_u), fun j j0 j1 => (by (show (if j = i then so (S.2.2.1 t i) q else B1 j) = _; by_cases e : j = i; rw [if_pos e, e]; exact hmi; rw [if_neg e]; exact hBB j j0 (by omega))), hf0.set0 hnw⟩
      have hfz := findI_in (P := fun i => so (S.2.2.1 t i) 11) hn0
      exact loop32 40 0 11 _ _ (by omega) ⟨by omega, by omega, Or.inl ⟨rfl, hfz.1⟩, hS, hA, fun j j0 j1 => absurd j1 (by omega), hf0⟩
    ·
      have hbad := c16
      refine x_iconst Z dX4_mend_19 ?_
      exact x_iret Z E (by first | exact ⟨_, rfl, rAct.bad1 hS hf0 hbad hc1⟩ | exact ⟨_, rfl, rAct.bad1 hS hf0 hbad hc1⟩) dX4_mend_20 (Nat.le_of_ble_eq_true rfl) (Nat.le_of_ble_eq_true rfl)
  refine x_aload_n Z dX4_mend_0 rfl rfl ?_
  refine x_iload_n Z dX4_mend_1 rfl rfl ?_
  refine x_callS Z okX4_is q1071 q1072 dX4_mend_2 (c_X4_is h0 htr (by assumption)) ⟨Nat.le_of_ble_eq_true rfl, Nat.le_of_ble_eq_true rfl, Nat.le_of_ble_eq_true rfl, Nat.le_of_ble_eq_true rfl⟩ rfl rfl (Nat.le_of_ble_eq_true rfl) (fun v9 w9 hR => ?_)
  obtain ⟨o9, rfl, e9, hq⟩ := hR
  refine x_ew e9 ?_
  simp only [Option.toList_some, Option.toList_none, List.cons_append, List.nil_append]
  refine x_ifb_ne Z 12 dX4_mend_5 (by decide) (fun c5 => ?_) (fun c5 => ?_)
  ·
    have f5 := bq_t hq c5
    refine x_ib false Z dX4_mend_12 (by decide) ?_
    exact join13 _ (by first | exact ⟨fun _ => by omega, fun _ => rfl⟩ | exact ⟨fun h => absurd h (by decide), fun h => (h (by omega)).elim⟩)
  ·
    have f5 := bq_f hq c5
    refine x_ib true Z dX4_mend_8 (by decide) ?_
    refine x_goto Z 13 dX4_mend_9 (by decide) ?_
    exact join13 _ (by first | exact ⟨fun _ => by omega, fun _ => rfl⟩ | exact ⟨fun h => absurd h (by decide), fun h => (h (by omega)).elim⟩)
abbrev rmc_X4_take : Room := { frames := 7, cells := 2, slots := 60, locals := 161 }
set_option maxRecDepth 100000 in
theorem c_X4_take {l : Launch} {s0 : State} {G : gK} {w : wd} (h0 : gS0 s0) (htr : l.stackTraces = false) {R : rA} {S : rM} {t : Int} {m : Int} {u : Int} (hS : rS G w R S) (hit : inr t) (him : inr m) (hiu : inr u) : gM l s0 G yX4_take [Cond.code yX4_take cX4_take 8 (some .int)] rmc_X4_take [rv R.1, iv t, iv m, iv u] w (fun v w' => ∃ z : Int, v = some (iv z) ∧ rAct G w R S (((0 ≤ t ∧ t < 3) ∧ 0 ≤ u ∧ u < 3) ∧ 0 ≤ m ∧ 0 ≤ pbg (S.2.1 t) (S.2.2.1 t) m) (True) (acTake S.2.1 S.2.2.1 t m u) w' z) (noX) := by
  refine g_of h0 htr (by decide +kernel) (Nat.le_of_ble_eq_true rfl) ?_
  intro b Z0 E
  have Z : gAm b l s0 G cX4_take RX4 8 rmc_X4_take := Z0
  refine x_el (L' := [(0, rv R.1), (1, iv t), (2, iv m), (3, iv u)]) rfl ?_
  obtain ⟨hr1, hr2, ⟨f3, hr3, hf3⟩, hr4, hr5, hr6⟩ := id hS
  have hf0 : fr (rP R S.1) w w := fr.rf
  have join33 : ∀ (c1 : Bool), (c1 = true ↔ ¬ (((0 ≤ t ∧ t < 3) ∧ 0 ≤ u ∧ u < 3) ∧ 0 ≤ m ∧ 0 ≤ pbg (S.2.1 t) (S.2.2.1 t) m)) → gX b s0 G (0) (0) 33 [(0, rv R.1), (1, iv t), (2, iv m), (3, iv u)] [iv (b2 c1), rv R.1] (w) := by
    intro c1 hv
    have hc1 := hv
    refine x_callV (ci := 5) (C := RX4) (T := TX4) (N := 7) Z okX4_isThrown_ q1106 q1108 q15 rfl dX4_take_33 (c_X4_isThrown_ h0 htr hS) hS.1 ⟨Nat.le_of_ble_eq_true rfl, Nat.le_of_ble_eq_true rfl, Nat.le_of_ble_eq_true rfl, Nat.le_of_ble_eq_true rfl⟩ rfl rfl (Nat.le_of_ble_eq_true rfl) (fun v9 w9 hR => ?_)
    obtain ⟨rfl, hS, hf9⟩ := hR
    have hf0 := hf0.tr hf9
    simp only [Option.toList_some, Option.toList_none, List.cons_append, List.nil_append]
    refine x_ifb_eq Z 41 dX4_take_36 (by decide) (fun c36 => ?_) (fun c36 => ?_)
    ·
      have ea := c36
      have o1 := bq_n hc1 ea
      subst ea
      obtain ⟨hr1, hr2, ⟨f3, hr3, hf3⟩, hr4, hr5, hr6⟩ := id hS
      obtain ⟨hrt, hn0, hn30, hC⟩ := hr5 t (by omega) (by omega)
      try dsimp only [rT] at hr1 hf3 hr4 hr5 hr6
      try dsimp only [rT] at hrt hn0 hn30 hC
      have en : (rT S (th2 false false)).2.1 t = S.2.1 t := rfl
      have e1 : (rT S (th2 false false)).1 = S.1 := rfl
      have hK : rK (rT S (th2 false false)) (rT S (th2 false false)) t := rK.rf
      obtain ⟨hru, hm0, hm30, hD⟩ := hr5 u (by omega) (by omega)
      try dsimp only [rT] at hru hm0 hm30 hD
      have hpb := pbg_in (n := S.2.1 t) (C := S.2.2.1 t) (k := m) (by omega)
      have hlo := lon_in (n := S.2.1 t) (C := S.2.2.1 t) (p := (pbg (S.2.1 t) (S.2.2.1 t) m)) (by omega)
      refine x_aload_n Z dX4_take_41 rfl rfl ?_
      refine x_iload_n Z dX4_take_42 rfl rfl ?_
      refine x_iload_n Z dX4_take_43 rfl rfl ?_
      refine x_callV (ci := 5) (C := RX4) (T := TX4) (N := 7) Z okX4_begin q1171 q1173 q19 rfl dX4_take_44 (c_X4_begin h0 htr hS (by omega) (by omega) (by omega) (by assumption)) hS.1 ⟨Nat.le_of_ble_eq_true rfl, Nat.le_of_ble_eq_true rfl, Nat.le_of_ble_eq_true rfl, Nat.le_of_ble_eq_true rfl⟩ rfl rfl (Nat.le_of_ble_eq_true rfl) (fun v9 w9 hR => ?_)
      obtain ⟨rfl, e9⟩ := hR
      refine x_ew e9 ?_
      simp only [Option.toList_some, Option.toList_none, List.cons_append, List.nil_append]
      refine x_istore (L' := [(4, _), (0, _), (1, _), (2, _), (3, _)]) Z dX4_take_47 (Nat.le_of_ble_eq_true rfl) rfl ?_
      refine x_aload_n Z dX4_take_49 rfl rfl ?_
      refine x_iload_n Z dX4_take_50 rfl rfl ?_
      refine x_iload Z dX4_take_51 rfl ?_
      refine x_callV (ci := 5) (C := RX4) (T := TX4) (N := 7) Z okX4_longestOf q1175 q1177 q20 rfl dX4_take_53 (c_X4_longestOf h0 htr hS (by omega) (by omega) (by omega) (by omega)) hS.1 ⟨Nat.le_of_ble_eq_true rfl, Nat.le_of_ble_eq_true rfl, Nat.le_of_ble_eq_true rfl, Nat.le_of_ble_eq_true rfl⟩ rfl rfl (Nat.le_of_ble_eq_true rfl) (fun v9 w9 hR => ?_)
      obtain ⟨rfl, e9⟩ := hR
      refine x_ew e9 ?_
      simp only [Option.toList_some, Option.toList_none, List.cons_append, List.nil_append]
      refine x_istore (L' := [(5, _), (4, _), (0, _), (1, _), (2, _), (3, _)]) Z dX4_take_56 (Nat.le_of_ble_eq_true rfl) rfl ?_
      refine x_bipush Z dX4_take_58 (by decide +kernel) ?_
      refine x_newI Z (30) q83 (by first | rfl | omega) (by omega) (Nat.le_of_ble_eq_true rfl) (Nat.le_of_ble_eq_true rfl) dX4_take_60 (fun n60 hn60 => ?_)
      have hne : ∀ q, rP R (rT S (th2 false false)).1 q → ¬ q = n60 := fun q hq z => hS.nn q hq (by rw [z]; exact hn60)
      have hnw : w n60 = none := hf0.none hn60 (fun z => hne _ z rfl)
      refine x_gen fun w0 hw0 => ?_
      have hS := hS.frm (w' := w0) (P := fun q => q = n60) (by rw [hw0]; exact fr.rf.set rfl) hne
      have hA : w0 n60 = some (eI G 30 (fun _ => 0)) := by { rw [hw0]; exact ws1_s }
      have hf0 : fr (rP R S.1) w w0 := by { rw [hw0]; exact hf0.set0 hnw }
      obtain ⟨hr1, hr2, ⟨f3, hr3, hf3⟩, hr4, hr5, hr6⟩ := id hS
      obtain ⟨hrt, hn0, hn30, hC⟩ := hr5 t (by omega) (by omega)
      try dsimp only [rT] at hr1 hf3 hr4 hr5 hr6
      try dsimp only [rT] at hrt hn0 hn30 hC
      refine x_astore (L' := [(6, _), (5, _), (4, _), (0, _), (1, _), (2, _), (3, _)]) Z dX4_take_62 (Nat.le_of_ble_eq_true rfl) rfl ?_
      refine x_iconst Z dX4_take_64 ?_
      refine x_istore (L' := [(7, _), (6, _), (5, _), (4, _), (0, _), (1, _), (2, _), (3, _)]) Z dX4_take_65 (Nat.le_of_ble_eq_true rfl) rfl ?_
      have loop67 : ∀ (fu : Nat) (i : Int) (D1 : Int → Int) (w1 : wd), 40 - i < (fu : Int) → (0 ≤ i ∧ i ≤ (lon (S.2.1 t) (S.2.2.1 t) (pbg (S.2.1 t) (S.2.2.1 t) m)) ∧ rS G w1 R (rT S (th2 false false)) ∧ w1 n60 = some (eI G 30 D1) ∧ (∀ j, 0 ≤ D1 j ∧ D1 j ≤ 255) ∧ (∀ j, 0 ≤ j → j < i → D1 j = S.2.2.1 t ((pbg (S.2.1 t) (S.2.2.1 t) m) + j)) ∧ fr (rP R S.1) w w1) → gX b s0 G (1) (30) 67 [(7, iv i), (6, rv n60), (5, iv (lon (S.2.1 t) (S.2.2.1 t) (pbg (S.2.1 t) (S.2.2.1 t) m))), (4, iv (pbg (S.2.1 t) (S.2.2.1 t) m)), (0, rv R.1), (1, iv t), (3, iv u)] [] (w1) := by
        intro fu; induction fu with
        | zero => intro i D1 w1 hm hv; exact absurd hm (by omega)
        | succ fu ih67 =>
          intro i D1 w1 hm hv
          obtain ⟨hi0, hin, hS, hA, hD1, hDD, hf0⟩ := hv
          obtain ⟨hr1, hr2, ⟨f3, hr3, hf3⟩, hr4, hr5, hr6⟩ := id hS
          obtain ⟨hrt, hn0, hn30, hC⟩ := hr5 t (by omega) (by omega)
          try dsimp only [rT] at hr1 hf3 hr4 hr5 hr6
          try dsimp only [rT] at hrt hn0 hn30 hC
          refine x_iload Z dX4_take_67 rfl ?_
          refine x_iload Z dX4_take_69 rfl ?_
          refine x_icmp_ge Z 97 dX4_take_71 (by decide) ⟨by omega, by omega⟩ ⟨by omega, by omega⟩ (fun c71 => ?_) (fun c71 => ?_)
          ·
            refine x_aload_n Z dX4_take_97 rfl rfl ?_
            refine x_iload_n Z dX4_take_98 rfl rfl ?_
            refine x_aload Z dX4_take_99 rfl ?_
            refine x_iload Z dX4_take_101 rfl ?_
            refine x_callV (ci := 5) (C := RX4) (T := TX4) (N := 7) Z okX4_become q1118 q1120 q16 rfl dX4_take_103 (c_X4_become h0 htr hS (by omega) (by omega) hA hD1 (by omega) (by omega)) hS.1 ⟨Nat.le_of_ble_eq_true rfl, Nat.le_of_ble_eq_true rfl, Nat.le_of_ble_eq_true rfl, Nat.le_of_ble_eq_true rfl⟩ rfl rfl (Nat.le_of_ble_eq_true rfl) (fun v9 w9 hR => ?_)
            obtain ⟨rfl, S9, hV9, hK9, hn9, hD9⟩ := hR
            simp only [Option.toList_some, Option.toList_none, List.cons_append, List.nil_append]
            have hV := rV.tr (show rV G w R S w1 (rT S (th2 false false)) from ⟨hS, rfl, hf0, fun x hx => Or.inl hx⟩) hV9
            have hS := hV9.1
            obtain ⟨hr1, hr2, ⟨f3, hr3, hf3⟩, hr4, hr5, hr6⟩ := id hS
            refine x_aload_n Z dX4_take_106 rfl rfl ?_
            refine x_iload Z dX4_take_107 rfl ?_
            refine x_callV (ci := 5) (C := RX4) (T := TX4) (N := 7) Z okX4_done q1089 q1091 q13 rfl dX4_take_109 (c_X4_done h0 htr hS) hS.1 ⟨Nat.le_of_ble_eq_true rfl, Nat.le_of_ble_eq_true rfl, Nat.le_of_ble_eq_true rfl, Nat.le_of_ble_eq_true rfl⟩ rfl rfl (Nat.le_of_ble_eq_true rfl) (fun v9 w9 hR => ?_)
            obtain ⟨rfl, hS, hf9⟩ := hR
            simp only [Option.toList_some, Option.toList_none, List.cons_append, List.nil_append]
            exact x_iret Z E (⟨_, rfl, rAct.finV hK9 hV hS hf9 o1 trivial rfl hn9 (hD9.tr (fun j j0 j1 => hDD j j0 (by omega)))⟩) dX4_take_112 (Nat.le_of_ble_eq_true rfl) (Nat.le_of_ble_eq_true rfl)
          ·
            refine x_aload Z dX4_take_74 rfl ?_
            refine x_iload Z dX4_take_76 rfl ?_
            refine x_aload_n Z dX4_take_78 rfl rfl ?_
            refine x_getf (ci := 5) (j := 1) (C := RX4) (T := TX4) (N := 7) Z inX4g rfl (by decide) q1042 rfl dX4_take_79 (by assumption) rfl ?_
            refine x_iload_n Z dX4_take_82 rfl rfl ?_
            refine x_aaldR Z dX4_take_83 hr3 (by decide) (by omega) (by omega) (hf3 t (by omega) (by omega)) ?_
            refine x_iload Z dX4_take_84 rfl ?_
            refine x_iload Z dX4_take_86 rfl ?_
            refine x_iadd Z dX4_take_88 ?_
            refine x_iald Z dX4_take_89 (by assumption) (by omega) (by omega) (by omega) ?_
            refine x_iast Z dX4_take_90 (by assumption) (by omega) (by omega) (by omega) ?_
            refine x_iinc (L' := [(7, _), (6, _), (5, _), (4, _), (0, _), (1, _), (3, _)]) Z dX4_take_91 rfl (Nat.le_of_ble_eq_true rfl) rfl ?_
            refine x_goto Z 67 dX4_take_94 (by decide) ?_
            exact ih67 (i + 1) _ _ (by omega) ⟨by omega, by omega, hS.frm (P := fun q => q = n60) (fr.rf.set rfl) hne, ws1_s, uF_rng hD1 (hC ((pbg (S.2.1 t) (S.2.2.1 t) m) + i)).1 (hC ((pbg (S.2.1 t) (S.2.2.1 t) m) + i)).2, fun j j0 j1 => (by { unfold uF; by_cases e : j = i; rw [if_pos e, e]; rw [if_neg e]; exact hDD j j0 (by omega) }), hf0.set0 hnw⟩
      refine x_sub [0, 1, 2, 3, 4, 5, 7] rfl ?_
      exact loop67 41 0 _ _ (by omega) ⟨by omega, by omega, hS, hA, fun j => ⟨Int.le_refl 0, by exact (by decide : (0 : Int) ≤ 255)⟩, fun j j0 j1 => absurd j1 (by omega), hf0⟩
    ·
      have hbad := c36
      refine x_iconst Z dX4_take_39 ?_
      exact x_iret Z E (by first | exact ⟨_, rfl, rAct.bad1 hS hf0 hbad hc1⟩ | exact ⟨_, rfl, rAct.bad1 hS hf0 hbad hc1⟩) dX4_take_40 (Nat.le_of_ble_eq_true rfl) (Nat.le_of_ble_eq_true rfl)
  refine x_aload_n Z dX4_take_0 rfl rfl ?_
  refine x_iload_n Z dX4_take_1 rfl rfl ?_
  refine x_callS Z okX4_is q1071 q1072 dX4_take_2 (c_X4_is h0 htr (by assumption)) ⟨Nat.le_of_ble_eq_true rfl, Nat.le_of_ble_eq_true rfl, Nat.le_of_ble_eq_true rfl, Nat.le_of_ble_eq_true rfl⟩ rfl rfl (Nat.le_of_ble_eq_true rfl) (fun v9 w9 hR => ?_)
  obtain ⟨o9, rfl, e9, hq⟩ := hR
  refine x_ew e9 ?_
  simp only [Option.toList_some, Option.toList_none, List.cons_append, List.nil_append]
  refine x_ifb_eq Z 28 dX4_take_5 (by decide) (fun c5 => ?_) (fun c5 => ?_)
  ·
    have f5 := bq_f hq c5
    refine x_ib true Z dX4_take_28 (by decide) ?_
    refine x_goto Z 33 dX4_take_29 (by decide) ?_
    exact join33 _ (by first | exact ⟨fun _ => by omega, fun _ => rfl⟩ | exact ⟨fun h => absurd h (by decide), fun h => (h (by omega)).elim⟩)
  ·
    have f5 := bq_t hq c5
    refine x_iload_n Z dX4_take_8 rfl rfl ?_
    refine x_callS Z okX4_is q1071 q1072 dX4_take_9 (c_X4_is h0 htr (by assumption)) ⟨Nat.le_of_ble_eq_true rfl, Nat.le_of_ble_eq_true rfl, Nat.le_of_ble_eq_true rfl, Nat.le_of_ble_eq_true rfl⟩ rfl rfl (Nat.le_of_ble_eq_true rfl) (fun v9 w9 hR => ?_)
    obtain ⟨o9, rfl, e9, hq⟩ := hR
    refine x_ew e9 ?_
    simp only [Option.toList_some, Option.toList_none, List.cons_append, List.nil_append]
    refine x_ifb_eq Z 28 dX4_take_12 (by decide) (fun c12 => ?_) (fun c12 => ?_)
    ·
      have f12 := bq_f hq c12
      refine x_ib true Z dX4_take_28 (by decide) ?_
      refine x_goto Z 33 dX4_take_29 (by decide) ?_
      exact join33 _ (by first | exact ⟨fun _ => by omega, fun _ => rfl⟩ | exact ⟨fun h => absurd h (by decide), fun h => (h (by omega)).elim⟩)
    ·
      have f12 := bq_t hq c12
      refine x_iload_n Z dX4_take_15 rfl rfl ?_
      refine x_if_lt Z 28 dX4_take_16 (by decide) ⟨by omega, by omega⟩ (fun c16 => ?_) (fun c16 => ?_)
      ·
        refine x_ib true Z dX4_take_28 (by decide) ?_
        refine x_goto Z 33 dX4_take_29 (by decide) ?_
        exact join33 _ (by first | exact ⟨fun _ => by omega, fun _ => rfl⟩ | exact ⟨fun h => absurd h (by decide), fun h => (h (by omega)).elim⟩)
      ·
        have ⟨_, hn0, hn30, _⟩ := hr5 t (by omega) (by omega)
        refine x_aload_n Z dX4_take_19 rfl rfl ?_
        refine x_iload_n Z dX4_take_20 rfl rfl ?_
        refine x_iload_n Z dX4_take_21 rfl rfl ?_
        refine x_callV (ci := 5) (C := RX4) (T := TX4) (N := 7) Z okX4_begin q1171 q1173 q19 rfl dX4_take_22 (c_X4_begin h0 htr hS (by omega) (by omega) (by omega) (by assumption)) hS.1 ⟨Nat.le_of_ble_eq_true rfl, Nat.le_of_ble_eq_true rfl, Nat.le_of_ble_eq_true rfl, Nat.le_of_ble_eq_true rfl⟩ rfl rfl (Nat.le_of_ble_eq_true rfl) (fun v9 w9 hR => ?_)
        obtain ⟨rfl, e9⟩ := hR
        refine x_ew e9 ?_
        simp only [Option.toList_some, Option.toList_none, List.cons_append, List.nil_append]
        have hpb := pbg_in (n := S.2.1 t) (C := S.2.2.1 t) (k := m) (by omega)
        refine x_if_ge Z 32 dX4_take_25 (by decide) ⟨by omega, by omega⟩ (fun c25 => ?_) (fun c25 => ?_)
        ·
          refine x_ib false Z dX4_take_32 (by decide) ?_
          exact join33 _ (by first | exact ⟨fun _ => by omega, fun _ => rfl⟩ | exact ⟨fun h => absurd h (by decide), fun h => (h (by omega)).elim⟩)
        ·
          refine x_ib true Z dX4_take_28 (by decide) ?_
          refine x_goto Z 33 dX4_take_29 (by decide) ?_
          exact join33 _ (by first | exact ⟨fun _ => by omega, fun _ => rfl⟩ | exact ⟨fun h => absurd h (by decide), fun h => (h (by omega)).elim⟩)
