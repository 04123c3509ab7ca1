/-! the reference: object, kinds, row of rows, sizes; text by text its row -/
abbrev rA : Type := Nat × Nat × Nat × Nat
abbrev rM : Type := (Int → Nat) × (Int → Int) × (Int → Int → Int) × Int × Int × Int × Int
def rP (R : rA) (ro : Int → Nat) : Nat → Prop := fun q => q = R.1 ∨ q = R.2.1 ∨ q = R.2.2.1 ∨ q = R.2.2.2 ∨ ∃ i : Int, 0 ≤ i ∧ i < 3 ∧ q = ro i
def rS (G : gK) (w : wd) (R : rA) (S : rM) : Prop :=
  w R.1 = some (eO 5 [rv R.2.1, rv R.2.2.1, rv R.2.2.2, iv S.2.2.2.1, iv S.2.2.2.2.1, iv S.2.2.2.2.2.1, iv S.2.2.2.2.2.2]) ∧ w R.2.1 = some (eI G 256 kin) ∧ (∃ f, w R.2.2.1 = some (eR G 3 f) ∧ ∀ i : Int, 0 ≤ i → i < 3 → f i = some (S.1 i)) ∧ w R.2.2.2 = some (eI G 3 S.2.1) ∧ (∀ i : Int, 0 ≤ i → i < 3 → w (S.1 i) = some (eI G 30 (S.2.2.1 i)) ∧ 0 ≤ S.2.1 i ∧ S.2.1 i ≤ 30 ∧ ∀ j, 0 ≤ S.2.2.1 i j ∧ S.2.2.1 i j ≤ 255) ∧ (∀ i j : Int, 0 ≤ i → i < 3 → 0 ≤ j → j < 3 → i ≠ j → S.1 i ≠ S.1 j)
theorem rS.row {G : gK} {w : wd} {R : rA} {S : rM} {t p x : Int} (h : rS G w R S) (t0 : 0 ≤ t) (t3 : t < 3) (x0 : 0 ≤ x) (x9 : x ≤ 255) : rS G (ws1 w (S.1 t) (eI G 30 (uF (S.2.2.1 t) p x))) R (S.1, S.2.1, fun i => if i = t then uF (S.2.2.1 t) p x else S.2.2.1 i, S.2.2.2) := by
  obtain ⟨a1, a2, ⟨f, a3, a4⟩, a5, a6, a7⟩ := h
  obtain ⟨b1, b2, b3, b4⟩ := a6 t t0 t3
  refine ⟨by rw [ws1_n (tne 1000005 60 a1 b1 rfl rfl (by decide))]; exact a1, by rw [ws1_n (tne 512 60 a2 b1 rfl rfl (by decide))]; exact a2, ⟨f, by rw [ws1_n (tne 7 60 a3 b1 rfl rfl (by decide))]; exact a3, a4⟩, by rw [ws1_n (tne 6 60 a5 b1 rfl rfl (by decide))]; exact a5, ?_, a7⟩
  intro i i0 i3
  by_cases e : i = t
  · subst e
    refine ⟨by show ws1 w (S.1 i) _ (S.1 i) = some (eI G 30 (if i = i then _ else _)); rw [ws1_s, if_pos rfl], b2, b3, fun j => ?_⟩
    show 0 ≤ (if i = i then uF (S.2.2.1 i) p x else S.2.2.1 i) j ∧ (if i = i then uF (S.2.2.1 i) p x else S.2.2.1 i) j ≤ 255
    rw [if_pos rfl]
    unfold uF
    split
    · exact ⟨x0, x9⟩
    · exact b4 j
  · obtain ⟨c1, c2, c3, c4⟩ := a6 i i0 i3
    refine ⟨by show ws1 w (S.1 t) _ (S.1 i) = some (eI G 30 (if i = t then _ else _)); rw [ws1_n (a7 i t i0 i3 t0 t3 e), if_neg e]; exact c1, c2, c3, fun j => ?_⟩
    show 0 ≤ (if i = t then uF (S.2.2.1 t) p x else S.2.2.1 i) j ∧ (if i = t then uF (S.2.2.1 t) p x else S.2.2.1 i) j ≤ 255
    rw [if_neg e]
    exact c4 j
theorem rS.siz {G : gK} {w : wd} {R : rA} {S : rM} {t x : Int} (h : rS G w R S) (x0 : 0 ≤ x) (x9 : x ≤ 30) : rS G (ws1 w R.2.2.2 (eI G 3 (uF S.2.1 t x))) R (S.1, uF S.2.1 t x, S.2.2) := by
  obtain ⟨a1, a2, ⟨f, a3, a4⟩, a5, a6, a7⟩ := h
  refine ⟨by rw [ws1_n (tne 1000005 6 a1 a5 rfl rfl (by decide))]; exact a1, by rw [ws1_n (tne 512 6 a2 a5 rfl rfl (by decide))]; exact a2, ⟨f, by rw [ws1_n (tne 7 6 a3 a5 rfl rfl (by decide))]; exact a3, a4⟩, ws1_s, ?_, a7⟩
  intro i i0 i3
  obtain ⟨c1, c2, c3, c4⟩ := a6 i i0 i3
  refine ⟨by rw [ws1_n (tne 60 6 c1 a5 rfl rfl (by decide))]; exact c1, ?_, ?_, c4⟩
  · show 0 ≤ (if i = t then x else S.2.1 i)
    split <;> assumption
  · show (if i = t then x else S.2.1 i) ≤ 30
    split <;> assumption
theorem rS.obj {G : gK} {w : wd} {R : rA} {S : rM} (h : rS G w R S) (x y z u : Int) : rS G (ws1 w R.1 (eO 5 [rv R.2.1, rv R.2.2.1, rv R.2.2.2, iv x, iv y, iv z, iv u])) R (S.1, S.2.1, S.2.2.1, x, y, z, u) := by
  obtain ⟨a1, a2, ⟨f, a3, a4⟩, a5, a6, a7⟩ := h
  refine ⟨ws1_s, by rw [ws1_n (tne 512 1000005 a2 a1 rfl rfl (by decide))]; exact a2, ⟨f, by rw [ws1_n (tne 7 1000005 a3 a1 rfl rfl (by decide))]; exact a3, a4⟩, by rw [ws1_n (tne 6 1000005 a5 a1 rfl rfl (by decide))]; exact a5, ?_, a7⟩
  intro i i0 i3
  obtain ⟨c1, c2⟩ := a6 i i0 i3
  exact ⟨by rw [ws1_n (tne 60 1000005 c1 a1 rfl rfl (by decide))]; exact c1, c2⟩
theorem rS.frm {G : gK} {w w' : wd} {P : Nat → Prop} {R : rA} {S : rM} (h : rS G w R S) (hf : fr P w w') (hd : ∀ q, rP R S.1 q → ¬ P q) : rS G w' R S := by
  obtain ⟨a1, a2, ⟨f, a3, a4⟩, a5, a6, a7⟩ := h
  refine ⟨hf.at (hd _ (Or.inl rfl)) a1, hf.at (hd _ (Or.inr (Or.inl rfl))) a2, ⟨f, hf.at (hd _ (Or.inr (Or.inr (Or.inl rfl)))) a3, a4⟩, hf.at (hd _ (Or.inr (Or.inr (Or.inr (Or.inl rfl))))) a5, fun i i0 i3 => ?_, a7⟩
  obtain ⟨c1, c2⟩ := a6 i i0 i3
  exact ⟨hf.at (hd _ (Or.inr (Or.inr (Or.inr (Or.inr ⟨i, i0, i3, rfl⟩))))) c1, c2⟩
theorem rS.nn {G : gK} {w : wd} {R : rA} {S : rM} (h : rS G w R S) : ∀ q, rP R S.1 q → w q ≠ none := by
  obtain ⟨a1, a2, ⟨f, a3, a4⟩, a5, a6, a7⟩ := h
  rintro q (z | z | z | z | ⟨i, i0, i3, z⟩)
  · rw [z, a1]; intro h; cases h
  · rw [z, a2]; intro h; cases h
  · rw [z, a3]; intro h; cases h
  · rw [z, a5]; intro h; cases h
  · rw [z, (a6 i i0 i3).1]; intro h; cases h
/-- a new row in place of an old one -/
theorem rS.rep {G : gK} {w : wd} {R : rA} {S : rM} {t : Int} {q : Nat} {D : Int → Int} {f : Int → Option Nat} (h : rS G w R S) (t0 : 0 ≤ t) (t3 : t < 3) (hf : w R.2.2.1 = some (eR G 3 f)) (hq : w q = some (eI G 30 D)) (hD : ∀ j, 0 ≤ D j ∧ D j ≤ 255) (hn : ∀ i : Int, 0 ≤ i → i < 3 → S.1 i ≠ q) : rS G (ws1 w R.2.2.1 (eR G 3 (uQ f t (some q)))) R (fun i => if i = t then q else S.1 i, S.2.1, fun i => if i = t then D else S.2.2.1 i, S.2.2.2) := by
  obtain ⟨a1, a2, ⟨f', a3, a4⟩, a5, a6, a7⟩ := h
  have hff : ∀ i : Int, 0 ≤ i → i < 3 → f i = some (S.1 i) := by
    intro i i0 i3
    have e := a3.symm.trans hf
    have e2 : eR G 3 f' = eR G 3 f := Option.some.inj e
    unfold eR eQ at e2
    injection e2 with e2
    injection e2 with e3 e4
    injection e4 with e5 e6
    injection e6 with e6
    injection e6 with e6
    injection e6 with e6
    injection e6 with e6
    have e7 := congrFun e6 i.toNat
    have e8 : ((i.toNat : Nat) : Int) = i := Int.toNat_of_nonneg i0
    rw [e8] at e7
    rw [← e7]
    exact a4 i i0 i3
  refine ⟨by rw [ws1_n (tne 1000005 7 a1 hf rfl rfl (by decide))]; exact a1, by rw [ws1_n (tne 512 7 a2 hf rfl rfl (by decide))]; exact a2, ⟨_, ws1_s, fun i i0 i3 => ?_⟩, by rw [ws1_n (tne 6 7 a5 hf rfl rfl (by decide))]; exact a5, ?_, ?_⟩
  · show (if i = t then some q else f i) = some (if i = t then q else S.1 i)
    by_cases e : i = t
    · rw [if_pos e, if_pos e]
    · rw [if_neg e, if_neg e]
      exact hff i i0 i3
  · intro i i0 i3
    obtain ⟨c1, c2, c3, c4⟩ := a6 i i0 i3
    by_cases e : i = t
    · refine ⟨?_, c2, c3, ?_⟩
      · show ws1 w R.2.2.1 _ (if i = t then q else S.1 i) = some (eI G 30 (if i = t then D else S.2.2.1 i))
        rw [if_pos e, if_pos e, ws1_n (tne 60 7 hq hf rfl rfl (by decide))]
        exact hq
      · show ∀ j, 0 ≤ (if i = t then D else S.2.2.1 i) j ∧ (if i = t then D else S.2.2.1 i) j ≤ 255
        rw [if_pos e]
        exact hD
    · refine ⟨?_, c2, c3, ?_⟩
      · show ws1 w R.2.2.1 _ (if i = t then q else S.1 i) = some (eI G 30 (if i = t then D else S.2.2.1 i))
        rw [if_neg e, if_neg e, ws1_n (tne 60 7 c1 hf rfl rfl (by decide))]
        exact c1
      · show ∀ j, 0 ≤ (if i = t then D else S.2.2.1 i) j ∧ (if i = t then D else S.2.2.1 i) j ≤ 255
        rw [if_neg e]
        exact c4
  · intro i j i0 i3 j0 j3 hij
    show (if i = t then q else S.1 i) ≠ (if j = t then q else S.1 j)
    by_cases e : i = t
    · rw [if_pos e, if_neg (fun z => hij (e.trans z.symm))]
      exact fun z => hn j j0 j3 z.symm
    · rw [if_neg e]
      by_cases e2 : j = t
      · rw [if_pos e2]
        exact hn i i0 i3
      · rw [if_neg e2]
        exact a7 i j i0 i3 j0 j3 hij
/-- the reference's own state is another one (knocks alike), new cells stand where none stood, nothing else is other -/
def rW (G : gK) (w : wd) (R : rA) (S : rM) (w' : wd) : Prop := ∃ S' : rM, rS G w' R S' ∧ S'.2.2.2.2.2.1 = S.2.2.2.2.2.1 ∧ fr (rP R S.1) w w' ∧ ∀ q, rP R S'.1 q → rP R S.1 q ∨ w q = none
theorem rW.of {G : gK} {w w' : wd} {R : rA} {S S' : rM} (h : rS G w' R S') (hk : S'.2.2.2.2.2.1 = S.2.2.2.2.2.1) (hf : fr (rP R S.1) w w') (e : S'.1 = S.1) : rW G w R S w' := ⟨S', h, hk, hf, fun q hq => Or.inl (by rw [← e]; exact hq)⟩
abbrev rT (S : rM) (z : Int) : rM := (S.1, S.2.1, S.2.2.1, S.2.2.2.1, S.2.2.2.2.1, S.2.2.2.2.2.1, z)
def th2 (a c : Bool) : Int := cond a 1 (cond c 2 0)
theorem bq_t {q : Bool} {P : Prop} (h : q = true ↔ P) (e : q = true) : P := h.mp e
theorem bq_f {q : Bool} {P : Prop} (h : q = true ↔ P) (e : q = false) : ¬ P := fun p => by
  rw [h.mpr p] at e
  cases e
theorem bq_n {q : Bool} {P : Prop} (h : q = true ↔ ¬ P) (e : q = false) : P := Classical.byContradiction fun p => by
  rw [h.mpr p] at e
  cases e
theorem bor_f {a c : Bool} (h : (a || c) = false) : a = false ∧ c = false := by cases a <;> cases c <;> first | exact ⟨rfl, rfl⟩ | cases h
theorem bor_t {a c : Bool} (h : (a || c) = true) : a = true ∨ c = true := by cases a <;> cases c <;> first | exact Or.inl rfl | exact Or.inr rfl | cases h
