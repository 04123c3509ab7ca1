/-! the reference after an act; both sides alike -/
/-- only the text t is other -/
def rK (S S1 : rM) (t : Int) : Prop := (∀ u, u ≠ t → S1.2.1 u = S.2.1 u ∧ S1.2.2.1 u = S.2.2.1 u) ∧ S1.2.2.2.1 = S.2.2.2.1 ∧ S1.2.2.2.2.1 = S.2.2.2.2.1 ∧ S1.2.2.2.2.2.1 = S.2.2.2.2.2.1 ∧ S1.2.2.2.2.2.2 = S.2.2.2.2.2.2
theorem rK.rf {S : rM} {t : Int} : rK S S t := ⟨fun _ _ => ⟨rfl, rfl⟩, rfl, rfl, rfl, rfl⟩
theorem rK.row {S S1 : rM} {t : Int} {X : Int → Int} (h : rK S S1 t) : rK S (S1.1, S1.2.1, fun i => if i = t then X else S1.2.2.1 i, S1.2.2.2) t := ⟨fun u hu => ⟨(h.1 u hu).1, (if_neg hu).trans (h.1 u hu).2⟩, h.2⟩
theorem rK.siz {S S1 : rM} {t x : Int} (h : rK S S1 t) : rK S (S1.1, uF S1.2.1 t x, S1.2.2) t := ⟨fun u hu => ⟨(if_neg hu).trans (h.1 u hu).1, (h.1 u hu).2⟩, h.2⟩
theorem rK.rep {S S1 : rM} {t : Int} {ro : Int → Nat} {X : Int → Int} (h : rK S S1 t) : rK S (ro, S1.2.1, fun i => if i = t then X else S1.2.2.1 i, S1.2.2.2) t := ⟨fun u hu => ⟨(h.1 u hu).1, (if_neg hu).trans (h.1 u hu).2⟩, h.2⟩
theorem rK.tr {S S1 S2 : rM} {t : Int} (h : rK S S1 t) (h2 : rK S1 S2 t) : rK S S2 t := ⟨fun u hu => ⟨(h2.1 u hu).1.trans (h.1 u hu).1, (h2.1 u hu).2.trans (h.1 u hu).2⟩, h2.2.1.trans h.2.1, h2.2.2.1.trans h.2.2.1, h2.2.2.2.1.trans h.2.2.2.1, h2.2.2.2.2.trans h.2.2.2.2⟩
def rDo (S : rM) (x : oT) (z : Int) (S' : rM) : Prop := z = x.1 ∧ (∀ u : Int, 0 ≤ u → u < 3 → (S'.2.1 u = if u = x.2.1 then x.2.2.1 else S.2.1 u) ∧ tEq (S'.2.1 u) (S'.2.2.1 u) (if u = x.2.1 then x.2.2.2.1 else S.2.2.1 u)) ∧ S'.2.2.2.1 = S.2.2.2.1 + x.2.2.2.2.1 ∧ S'.2.2.2.2.1 = S.2.2.2.2.1 + x.2.2.2.2.2 ∧ S'.2.2.2.2.2.1 = S.2.2.2.2.2.1
theorem rDo.mk {S S1 : rM} {x : oT} {z t n' : Int} {D : Int → Int} (e : x = (z, t, n', D, 1, 0)) (hk : rK S S1 t) (hn : S1.2.1 t = n') (hD : tEq n' (S1.2.2.1 t) D) : rDo S x z (S1.1, S1.2.1, S1.2.2.1, S1.2.2.2.1 + 1, S1.2.2.2.2.1, S1.2.2.2.2.2.1, S1.2.2.2.2.2.2) := by
  subst e
  obtain ⟨h1, h2, h3, h4, h5⟩ := hk
  refine ⟨rfl, fun u _ _ => ⟨?_, ?_⟩, by show S1.2.2.2.1 + 1 = _; rw [h2], by show S1.2.2.2.2.1 = _; rw [h3]; exact (Int.add_zero _).symm, h4⟩
  · show S1.2.1 u = if u = t then n' else S.2.1 u
    by_cases h : u = t
    · rw [if_pos h, h]; exact hn
    · rw [if_neg h]; exact (h1 u h).1
  · show tEq (S1.2.1 u) (S1.2.2.1 u) (if u = t then D else S.2.2.1 u)
    by_cases h : u = t
    · rw [if_pos h, h, hn]; exact hD
    · rw [if_neg h, (h1 u h).2]; exact tEq.rf
theorem rDo.no {S : rM} {x : oT} {t T : Int} {ro : Int → Nat} (e : x = (-9, t, S.2.1 t, S.2.2.1 t, 0, 1)) : rDo S x (-9) (ro, S.2.1, S.2.2.1, S.2.2.2.1, S.2.2.2.2.1 + 1, S.2.2.2.2.2.1, T) := by
  subst e
  refine ⟨rfl, fun u _ _ => ⟨?_, ?_⟩, (Int.add_zero _).symm, rfl, rfl⟩
  · show S.2.1 u = if u = t then S.2.1 t else S.2.1 u
    by_cases h : u = t
    · rw [if_pos h, h]
    · rw [if_neg h]
  · show tEq (S.2.1 u) (S.2.2.1 u) (if u = t then S.2.2.1 t else S.2.2.1 u)
    by_cases h : u = t
    · rw [if_pos h, h]; exact tEq.rf
    · rw [if_neg h]; exact tEq.rf
theorem rDo.eq {S S' : rM} {x y : oT} {z : Int} (h : oEq x y) (hd : rDo S x z S') : rDo S y z S' := by
  obtain ⟨e1, e2, e3, e4, e5, e6⟩ := h
  obtain ⟨h1, h2, h3, h4, h5⟩ := hd
  refine ⟨h1.trans e1, fun u u0 u3 => ?_, h3.trans (by rw [e5]), h4.trans (by rw [e6]), h5⟩
  obtain ⟨a1, a2⟩ := h2 u u0 u3
  refine ⟨a1.trans (by rw [e2, e3]), ?_⟩
  by_cases c : u = x.2.1
  · rw [if_pos c] at a1 a2
    rw [if_pos (c.trans e2), a1]
    rw [a1] at a2
    exact a2.tr e4
  · rw [if_neg c] at a2
    rw [if_neg (by rw [← e2]; exact c)]
    exact a2
/-- both sides alike -/
def cpl (M : kM) (S : rM) : Prop := (∀ t : Int, 0 ≤ t → t < 3 → M.1 t = S.2.1 t ∧ tEq (M.1 t) (M.2.1 t) (S.2.2.1 t)) ∧ M.2.2.1 = S.2.2.2.1 ∧ M.2.2.2.1 = S.2.2.2.2.1 ∧ M.2.2.2.2 = S.2.2.2.2.2.1
theorem cpl.act {M M' : kM} {S S' : rM} {x y : oT} {z z2 : Int} (h : cpl M S) (he : oEq x y) (ha : aDo M x z M') (hr : rDo S y z2 S') : z = z2 ∧ cpl M' S' := by
  obtain ⟨c1, c2, c3, c4⟩ := h
  obtain ⟨e1, e2, e3, e4, e5, e6⟩ := he
  obtain ⟨a1, a2, a3, a4, a5⟩ := ha
  obtain ⟨r1, r2, r3, r4, r5⟩ := hr
  refine ⟨by rw [a1, r1, e1], fun t t0 t3 => ?_, by rw [a3, r3, c2, e5], by rw [a4, r4, c3, e6], by rw [a5, r5, c4]⟩
  obtain ⟨m1, m2⟩ := a2 t t0 t3
  obtain ⟨s1, s2⟩ := r2 t t0 t3
  obtain ⟨k1, k2⟩ := c1 t t0 t3
  by_cases q : t = x.2.1
  · have q2 : t = y.2.1 := q.trans e2
    rw [if_pos q] at m1 m2
    rw [if_pos q2] at s1 s2
    have en : M'.1 t = S'.2.1 t := by rw [m1, s1, e3]
    refine ⟨en, m2.tr ?_⟩
    rw [m1]
    exact e4.tr (by rw [e3, ← s1]; exact s2.sm)
  · have q2 : t ≠ y.2.1 := by rw [← e2]; exact q
    rw [if_neg q] at m1 m2
    rw [if_neg q2] at s1 s2
    have en : M'.1 t = S'.2.1 t := by rw [m1, s1, k1]
    refine ⟨en, m2.tr ?_⟩
    rw [m1]
    exact k2.tr (by rw [k1, ← s1]; exact s2.sm)
/-- what both sides know, alike -/
def vEq (n : Int → Int) (C : Int → Int → Int) (m : Int → Int) (D : Int → Int → Int) : Prop := ∀ t : Int, 0 ≤ t → t < 3 → n t = m t ∧ tEq (n t) (C t) (D t)
section AC
variable {n m : Int → Int} {C D : Int → Int → Int} {t u : Int}
theorem acIns_cg {p s : Int} (h : vEq n C m D) (t0 : 0 ≤ t) (t3 : t < 3) (p0 : 0 ≤ p) (pn : p ≤ n t) : oEq (acIns n C t p s) (acIns m D t p s) := by
  obtain ⟨e, hc⟩ := h t t0 t3
  unfold acIns
  rw [← e]
  by_cases q : 30 ≤ n t
  · rw [if_pos q, if_pos q]; exact ⟨rfl, rfl, rfl, hc, rfl, rfl⟩
  · rw [if_neg q, if_neg q]; exact ⟨rfl, rfl, rfl, tins_cg hc p0 pn, rfl, rfl⟩
theorem acAdd_cg {s : Int} (h : vEq n C m D) (t0 : 0 ≤ t) (t3 : t < 3) (n0 : 0 ≤ n t) : oEq (acIns n C t (n t) s) (acIns m D t (m t) s) := by
  rw [← (h t t0 t3).1]
  exact acIns_cg h t0 t3 n0 (Int.le_refl _)
theorem acPut_cg {p s : Int} (h : vEq n C m D) (t0 : 0 ≤ t) (t3 : t < 3) (p0 : 0 ≤ p) (pn : p < n t) : oEq (acPut n C t p s) (acPut m D t p s) := by
  obtain ⟨e, hc⟩ := h t t0 t3
  refine ⟨hc p p0 pn, rfl, e, fun j j0 jn => ?_, rfl, rfl⟩
  show uF (C t) p s j = uF (D t) p s j
  unfold uF
  by_cases q : j = p
  · rw [if_pos q, if_pos q]
  · rw [if_neg q, if_neg q]; exact hc j j0 jn
theorem acDrop_cg {p : Int} (h : vEq n C m D) (t0 : 0 ≤ t) (t3 : t < 3) (p0 : 0 ≤ p) (pn : p < n t) : oEq (acDrop n C t p) (acDrop m D t p) := by
  obtain ⟨e, hc⟩ := h t t0 t3
  refine ⟨hc p p0 pn, rfl, by show n t - 1 = m t - 1; rw [e], fun j j0 jn => ?_, rfl, rfl⟩
  have jn : j < n t - 1 := jn
  show (if j < p then C t j else C t (j + 1)) = (if j < p then D t j else D t (j + 1))
  by_cases q : j < p
  · rw [if_pos q, if_pos q]; exact hc j j0 (by omega)
  · rw [if_neg q, if_neg q]; exact hc (j + 1) (by omega) (by omega)
theorem acClear_cg (h : vEq n C m D) (t0 : 0 ≤ t) (t3 : t < 3) : oEq (acClear n C t) (acClear m D t) := ⟨(h t t0 t3).1, rfl, rfl, fun j j0 jn => absurd jn (by show ¬ j < 0; omega), rfl, rfl⟩
theorem acCopy_cg (h : vEq n C m D) (t0 : 0 ≤ t) (t3 : t < 3) : oEq (acCopy n C t u) (acCopy m D t u) := ⟨(h t t0 t3).1, rfl, (h t t0 t3).1, (h t t0 t3).2, rfl, rfl⟩
theorem acJoin_cg (h : vEq n C m D) (t0 : 0 ≤ t) (t3 : t < 3) (u0 : 0 ≤ u) (u3 : u < 3) : oEq (acJoin n C t u) (acJoin m D t u) := by
  obtain ⟨e, hc⟩ := h t t0 t3
  obtain ⟨e2, hc2⟩ := h u u0 u3
  unfold acJoin
  rw [← e, ← e2]
  by_cases q : 30 < n t + n u
  · rw [if_pos q, if_pos q]; exact ⟨rfl, rfl, rfl, hc, rfl, rfl⟩
  · rw [if_neg q, if_neg q]; exact ⟨rfl, rfl, rfl, tapp_cg hc hc2, rfl, rfl⟩
theorem acTurn_cg (h : vEq n C m D) (t0 : 0 ≤ t) (t3 : t < 3) (n0 : 0 ≤ n t) : oEq (acTurn n C t) (acTurn m D t) := by
  obtain ⟨e, hc⟩ := h t t0 t3
  unfold acTurn
  rw [← e]
  rw [findI_cg (P := fun j => decide (C t j ≠ C t (n t - 1 - j))) (Q := fun j => decide (D t j ≠ D t (n t - 1 - j))) n0 (fun j j0 jn => by show decide (C t j ≠ C t (n t - 1 - j)) = _; rw [hc j j0 jn, hc (n t - 1 - j) (by omega) (by omega)])]
  exact ⟨rfl, rfl, rfl, fun j j0 jn => hc _ (by have jn : j < n t := jn; omega) (by omega), rfl, rfl⟩
theorem acFill_cg {f k : Int} (h : vEq n C m D) (t0 : 0 ≤ t) (t3 : t < 3) : oEq (acFill n t f k) (acFill m t f k) := ⟨(h t t0 t3).1, rfl, rfl, tEq.rf, rfl, rfl⟩
theorem acCut_cg {f g : Int} (h : vEq n C m D) (t0 : 0 ≤ t) (t3 : t < 3) (f0 : 0 ≤ f) (gn : g ≤ n t) : oEq (acCut C t f g) (acCut D t f g) := ⟨rfl, rfl, rfl, fun j j0 jn => (h t t0 t3).2 _ (by omega) (by have jn : j < g - f := jn; omega), rfl, rfl⟩
theorem acSift_cg {P Q : Int → Bool} (h : vEq n C m D) (t0 : 0 ≤ t) (t3 : t < 3) (n0 : 0 ≤ n t) (hp : ∀ j, 0 ≤ j → j < n t → P j = Q j) : oEq (acSift n C t P) (acSift m D t Q) := by
  obtain ⟨e, hc⟩ := h t t0 t3
  have hs := sft_cg n0 hp hc
  unfold acSift
  rw [← e]
  exact ⟨by show n t - (sft P (n t) (C t)).1 = n t - (sft Q (n t) (D t)).1; rw [hs.1], rfl, hs.1, hs.2, rfl, rfl⟩
theorem acTake_cg {k : Int} (h : vEq n C m D) (t0 : 0 ≤ t) (t3 : t < 3) (n0 : 0 ≤ n t) (hb : 0 ≤ pbg (n t) (C t) k) : oEq (acTake n C t k u) (acTake m D t k u) := by
  obtain ⟨e, hc⟩ := h t t0 t3
  have hp := pbg_in (n := n t) (C := C t) (k := k) n0
  have hl := lon_in (n := n t) (C := C t) (p := pbg (n t) (C t) k) (by omega)
  unfold acTake
  rw [← e, ← pbg_cg n0 hc, ← lon_cg hc hb (by omega)]
  exact ⟨rfl, rfl, rfl, fun j j0 jn => hc _ (by omega) (by have jn : j < lon (n t) (C t) (pbg (n t) (C t) k) := jn; omega), rfl, rfl⟩
end AC
