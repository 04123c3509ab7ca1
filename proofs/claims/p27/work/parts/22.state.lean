section
/-! frames of worlds; a text, the class, the reference: what stands where -/
def fr (P : Nat → Prop) (w0 w : wd) : Prop := ∀ q, ¬ P q → w0 q ≠ none → w q = w0 q
theorem fr.rf {P : Nat → Prop} {w : wd} : fr P w w := fun _ _ _ => rfl
theorem fr.tr {P : Nat → Prop} {w0 w1 w2 : wd} (h1 : fr P w0 w1) (h2 : fr P w1 w2) : fr P w0 w2 := fun q hq hn => by
  have e := h1 q hq hn
  rw [h2 q hq (by rw [e]; exact hn), e]
theorem fr.mono {P Q : Nat → Prop} {w0 w : wd} (hf : fr P w0 w) (h : ∀ q, P q → Q q) : fr Q w0 w := fun q hq hn => hf q (fun hp => hq (h q hp)) hn
theorem fr.set {P : Nat → Prop} {w0 w : wd} {a : Nat} {e : va_E} (h : fr P w0 w) (ha : P a) : fr P w0 (ws1 w a e) := fun q hq hn => by
  rw [ws1_n (show q ≠ a from fun z => hq (by rw [z]; exact ha))]
  exact h q hq hn
theorem fr.new {P : Nat → Prop} {w0 w : wd} {q : Nat} {e : va_E} (h : fr P w0 w) (hn : w q = none) : fr P w0 (ws1 w q e) := fun x hx h0 => by
  have e1 := h x hx h0
  by_cases z : x = q
  · subst z
    rw [hn] at e1
    exact absurd e1.symm h0
  · rw [ws1_n z]
    exact e1
theorem fr.at {P : Nat → Prop} {w0 w : wd} {q : Nat} {e : va_E} (h : fr P w0 w) (hq : ¬ P q) (hw : w0 q = some e) : w q = some e := by
  rw [h q hq (by rw [hw]; intro z; cases z)]
  exact hw
def wsub (w1 w : wd) : Prop := ∀ a e, w1 a = some e → w a = some e
theorem wsub.rf {w : wd} : wsub w w := fun _ _ h => h
theorem wsub.new {w : wd} {q : Nat} {e : va_E} (hn : w q = none) : wsub w (ws1 w q e) := fun a x h => by
  rw [ws1_n (fun z => by subst z; rw [hn] at h; cases h)]
  exact h
theorem wsub.tr {w1 w2 w3 : wd} (h1 : wsub w1 w2) (h2 : wsub w2 w3) : wsub w1 w3 := fun a e h => h2 a e (h1 a e h)
def eTag (e : va_E) : Nat := match e with
  | .inl (_, n, .inl _) => 2 * n
  | .inl (_, n, .inr _) => 2 * n + 1
  | .inr (ci, _) => 1000000 + ci
theorem tne {w : wd} {a b : Nat} {e e2 : va_E} (x y : Nat) (h1 : w a = some e) (h2 : w b = some e2) (t1 : eTag e = x) (t2 : eTag e2 = y) (h : x ≠ y) : a ≠ b := wne h1 h2 (fun z => h (by rw [← t1, ← t2, z]))
section GS
variable {b : gBt} {l : Launch} {s0 : State} {G : gK} {cc : ByteArray} {own : String} {nL : Nat} {rm : Room} {k n pc : Nat} {L : List (Nat × Value)} {st : List Value} {w : wd}
theorem x_fg {w1 : wd} (h : wsub w1 w) (kk : gX b s0 G k n pc L st w1) : gX b s0 G k n pc L st w :=
  fun H locs ls hP hS hl => kk H locs ls (fun a e ha => hP a e (h a e ha)) hS hl
end GS
/-! a text -/
def tP (a r bb : Nat) : Nat → Prop := fun q => q = a ∨ q = r ∨ q = bb
theorem tX.d {G : gK} {w : wd} {a r bb : Nat} {n : Int} {C B : Int → Int} (h : tX G w a r bb n C B) : a ≠ r ∧ a ≠ bb ∧ r ≠ bb := by
  obtain ⟨h1, h2, h3, -⟩ := h
  exact ⟨tne 1000002 60 h1 h2 rfl rfl (by decide), tne 1000002 62 h1 h3 rfl rfl (by decide), tne 60 62 h2 h3 rfl rfl (by decide)⟩
theorem uF_sg {C : Int → Int} {p s y : Int} (e : bB y = bB s) : uF (sgF C) p (bB y) = sgF (uF C p s) := by
  funext j
  show (if j = p then bB y else bB (C j)) = bB (if j = p then s else C j)
  by_cases h : j = p
  · rw [if_pos h, if_pos h]
    exact e
  · rw [if_neg h, if_neg h]
theorem tX.row {G : gK} {w : wd} {a r bb : Nat} {n : Int} {C B : Int → Int} {p s y : Int} (h : tX G w a r bb n C B) (hs : 0 ≤ s ∧ s ≤ 255) (e : bB y = bB s) : tX G (ws1 w r (eB G 30 (uF (sgF C) p (bB y)))) a r bb n (uF C p s) B := by
  obtain ⟨d1, d2, d3⟩ := h.d
  obtain ⟨h1, h2, h3, h4, h5, h6⟩ := h
  refine ⟨by rw [ws1_n d1]; exact h1, ?_, by rw [ws1_n d3.symm]; exact h3, h4, h5, ?_⟩
  · rw [ws1_s, uF_sg e]
  · intro j
    unfold uF
    split
    · exact hs
    · exact h6 j
theorem tX.many {G : gK} {w : wd} {a r bb : Nat} {n n' : Int} {C B : Int → Int} (h : tX G w a r bb n C B) (h0 : 0 ≤ n') (h9 : n' ≤ 30) : tX G (ws1 w a (eO 2 [rv r, iv n', rv bb])) a r bb n' C B := by
  obtain ⟨d1, d2, d3⟩ := h.d
  obtain ⟨h1, h2, h3, h4, h5, h6⟩ := h
  exact ⟨ws1_s, by rw [ws1_n d1.symm]; exact h2, by rw [ws1_n d2.symm]; exact h3, h0, h9, h6⟩
theorem tX.by {G : gK} {w : wd} {a r bb : Nat} {n : Int} {C B B' : Int → Int} (h : tX G w a r bb n C B) : tX G (ws1 w bb (eI G 31 B')) a r bb n C B' := by
  obtain ⟨d1, d2, d3⟩ := h.d
  obtain ⟨h1, h2, h3, h4, h5, h6⟩ := h
  exact ⟨by rw [ws1_n d2]; exact h1, by rw [ws1_n d3]; exact h2, ws1_s, h4, h5, h6⟩
theorem tX.fr {G : gK} {w w' : wd} {P : Nat → Prop} {a r bb : Nat} {n : Int} {C B : Int → Int} (h : tX G w a r bb n C B) (hf : fr P w w') (h1 : ¬ P a) (h2 : ¬ P r) (h3 : ¬ P bb) : tX G w' a r bb n C B :=
  ⟨hf.at h1 h.1, hf.at h2 h.2.1, hf.at h3 h.2.2.1, h.2.2.2⟩
theorem tP1 {a r bb : Nat} : tP a r bb a := Or.inl rfl
theorem tP2 {a r bb : Nat} : tP a r bb r := Or.inr (Or.inl rfl)
theorem tP3 {a r bb : Nat} : tP a r bb bb := Or.inr (Or.inr rfl)
/-- a text changed, nothing else -/
def tW (G : gK) (w : wd) (a r bb : Nat) (w' : wd) : Prop := ∃ n' C' B', tX G w' a r bb n' C' B' ∧ fr (tP a r bb) w w'
/-- its own row of ints changed, nothing else -/
def tB (G : gK) (w : wd) (a r bb : Nat) (n : Int) (C : Int → Int) (w' : wd) : Prop := ∃ B', tX G w' a r bb n C B' ∧ fr (tP a r bb) w w'
/-! the class: the object, its row of texts, text by text its object, row, ints -/
abbrev kA : Type := Nat × Nat × (Int → Nat) × (Int → Nat) × (Int → Nat)
abbrev kM : Type := (Int → Int) × (Int → Int → Int) × Int × Int × Int
def kP (K : kA) : Nat → Prop := fun q => q = K.1 ∨ q = K.2.1 ∨ ∃ i : Int, 0 ≤ i ∧ i < 3 ∧ tP (K.2.2.1 i) (K.2.2.2.1 i) (K.2.2.2.2 i) q
def kS (G : gK) (w : wd) (K : kA) (M : kM) : Prop :=
  w K.1 = some (eO 3 [rv K.2.1, iv M.2.2.1, iv M.2.2.2.1, iv M.2.2.2.2]) ∧ (∃ f, w K.2.1 = some (eT G 3 f) ∧ ∀ i : Int, 0 ≤ i → i < 3 → f i = some (K.2.2.1 i)) ∧ (∀ i : Int, 0 ≤ i → i < 3 → ∃ B, tX G w (K.2.2.1 i) (K.2.2.2.1 i) (K.2.2.2.2 i) (M.1 i) (M.2.1 i) B) ∧ (∀ i j : Int, 0 ≤ i → i < 3 → 0 ≤ j → j < 3 → i ≠ j → K.2.2.1 i ≠ K.2.2.1 j ∧ K.2.2.2.1 i ≠ K.2.2.2.1 j ∧ K.2.2.2.2 i ≠ K.2.2.2.2 j)
theorem kP_t {K : kA} {i : Int} (h0 : 0 ≤ i) (h3 : i < 3) : ∀ q, tP (K.2.2.1 i) (K.2.2.2.1 i) (K.2.2.2.2 i) q → kP K q := fun _ h => Or.inr (Or.inr ⟨i, h0, h3, h⟩)
theorem kS.put {G : gK} {w w' : wd} {K : kA} {M : kM} {i : Int} {n' : Int} {C' B' : Int → Int} (h : kS G w K M) (h0 : 0 ≤ i) (h3 : i < 3) (ht : tX G w' (K.2.2.1 i) (K.2.2.2.1 i) (K.2.2.2.2 i) n' C' B') (hf : fr (tP (K.2.2.1 i) (K.2.2.2.1 i) (K.2.2.2.2 i)) w w') : kS G w' K (fun j => if j = i then n' else M.1 j, fun j => if j = i then C' else M.2.1 j, M.2.2) := by
  obtain ⟨a1, ⟨f, a2, a3⟩, a4, a5⟩ := h
  obtain ⟨Bi, hti⟩ := a4 i h0 h3
  refine ⟨hf.at ?_ a1, ⟨f, hf.at ?_ a2, a3⟩, ?_, a5⟩
  · rintro (z | z | z)
    · exact tne 1000003 1000002 a1 hti.1 rfl rfl (by decide) z
    · exact tne 1000003 60 a1 hti.2.1 rfl rfl (by decide) z
    · exact tne 1000003 62 a1 hti.2.2.1 rfl rfl (by decide) z
  · rintro (z | z | z)
    · exact tne 7 1000002 a2 hti.1 rfl rfl (by decide) z
    · exact tne 7 60 a2 hti.2.1 rfl rfl (by decide) z
    · exact tne 7 62 a2 hti.2.2.1 rfl rfl (by decide) z
  · intro j j0 j3
    by_cases e : j = i
    · subst e
      exact ⟨B', by show tX G w' _ _ _ (if j = j then n' else M.1 j) (if j = j then C' else M.2.1 j) B'; rw [if_pos rfl, if_pos rfl]; exact ht⟩
    · obtain ⟨Bj, htj⟩ := a4 j j0 j3
      obtain ⟨e1, e2, e3⟩ := a5 j i j0 j3 h0 h3 e
      refine ⟨Bj, ?_⟩
      show tX G w' _ _ _ (if j = i then n' else M.1 j) (if j = i then C' else M.2.1 j) Bj
      rw [if_neg e, if_neg e]
      refine htj.fr hf ?_ ?_ ?_
      · rintro (z | z | z)
        · exact e1 z
        · exact tne 1000002 60 htj.1 hti.2.1 rfl rfl (by decide) z
        · exact tne 1000002 62 htj.1 hti.2.2.1 rfl rfl (by decide) z
      · rintro (z | z | z)
        · exact tne 60 1000002 htj.2.1 hti.1 rfl rfl (by decide) z
        · exact e2 z
        · exact tne 60 62 htj.2.1 hti.2.2.1 rfl rfl (by decide) z
      · rintro (z | z | z)
        · exact tne 62 1000002 htj.2.2.1 hti.1 rfl rfl (by decide) z
        · exact tne 62 60 htj.2.2.1 hti.2.1 rfl rfl (by decide) z
        · exact e3 z
theorem kS.cnt {G : gK} {w : wd} {K : kA} {M : kM} (h : kS G w K M) (x y z : Int) : kS G (ws1 w K.1 (eO 3 [rv K.2.1, iv x, iv y, iv z])) K (M.1, M.2.1, x, y, z) := by
  obtain ⟨a1, ⟨f, a2, a3⟩, a4, a5⟩ := h
  refine ⟨ws1_s, ⟨f, by rw [ws1_n (tne 7 1000003 a2 a1 rfl rfl (by decide))]; exact a2, a3⟩, ?_, a5⟩
  intro i h0 h3
  obtain ⟨B, ht⟩ := a4 i h0 h3
  exact ⟨B, by rw [ws1_n (tne 1000002 1000003 ht.1 a1 rfl rfl (by decide))]; exact ht.1, by rw [ws1_n (tne 60 1000003 ht.2.1 a1 rfl rfl (by decide))]; exact ht.2.1, by rw [ws1_n (tne 62 1000003 ht.2.2.1 a1 rfl rfl (by decide))]; exact ht.2.2.1, ht.2.2.2⟩
theorem kS.fr {G : gK} {w w' : wd} {P : Nat → Prop} {K : kA} {M : kM} (h : kS G w K M) (hf : fr P w w') (hd : ∀ q, kP K q → ¬ P q) : kS G w' K M := by
  obtain ⟨a1, ⟨f, a2, a3⟩, a4, a5⟩ := h
  refine ⟨hf.at (hd _ (Or.inl rfl)) a1, ⟨f, hf.at (hd _ (Or.inr (Or.inl rfl))) a2, a3⟩, fun i h0 h3 => ?_, a5⟩
  obtain ⟨B, ht⟩ := a4 i h0 h3
  exact ⟨B, ht.fr hf (hd _ (kP_t h0 h3 _ tP1)) (hd _ (kP_t h0 h3 _ tP2)) (hd _ (kP_t h0 h3 _ tP3))⟩
theorem kS.some {G : gK} {w : wd} {K : kA} {M : kM} (h : kS G w K M) : ∀ q, kP K q → w q ≠ none := by
  obtain ⟨a1, ⟨f, a2, a3⟩, a4, a5⟩ := h
  rintro q (z | z | ⟨i, h0, h3, z⟩)
  · rw [z, a1]; intro h; cases h
  · rw [z, a2]; intro h; cases h
  · obtain ⟨B, ht⟩ := a4 i h0 h3
    rcases z with z | z | z
    · rw [z, ht.1]; intro h; cases h
    · rw [z, ht.2.1]; intro h; cases h
    · rw [z, ht.2.2.1]; intro h; cases h
/-- the class's own state is another one (knocks alike), nothing else is -/
def kW (G : gK) (w : wd) (K : kA) (M : kM) (w' : wd) : Prop := ∃ M' : kM, kS G w' K M' ∧ M'.2.2.2.2 = M.2.2.2.2 ∧ fr (kP K) w w'
theorem kW.rf {G : gK} {w : wd} {K : kA} {M : kM} (h : kS G w K M) : kW G w K M w := ⟨M, h, rfl, fr.rf⟩
theorem kW.tr {G : gK} {w w1 w2 : wd} {K : kA} {M M1 : kM} (hf : fr (kP K) w w1) (hk : M1.2.2.2.2 = M.2.2.2.2) (h : kW G w1 K M1 w2) : kW G w K M w2 := by
  obtain ⟨M', h1, h2, h3⟩ := h
  exact ⟨M', h1, h2.trans hk, hf.tr h3⟩
theorem kS.putW {G : gK} {w w' : wd} {K : kA} {M : kM} {i : Int} (h : kS G w K M) (h0 : 0 ≤ i) (h3 : i < 3) (ht : tW G w (K.2.2.1 i) (K.2.2.2.1 i) (K.2.2.2.2 i) w') : kW G w K M w' := by
  obtain ⟨n', C', B', h1, h2⟩ := ht
  exact ⟨_, h.put h0 h3 h1 h2, rfl, h2.mono (kP_t h0 h3)⟩
section GT
variable {b : gBt} {l : Launch} {s0 : State} {G : gK} {cc : ByteArray} {own : String} {nL : Nat} {rm : Room} {k n pc : Nat} {L : List (Nat × Value)} {st : List Value} {w : wd}
/-- the top of the stack as a number in range -/
theorem x_nz {x : Int} (kk : ∀ z : Int, inr z → zI x = zI z → gX b s0 G k n pc L (iv z :: st) w) : gX b s0 G k n pc L (iv x :: st) w := by
  have e : zI x = zI (zI x).toInt := (zI_of (zI x)).symm
  have h := kk (zI x).toInt ⟨Int32.le_toInt _, by have := Int32.toInt_lt (zI x); omega⟩ e
  show gX b s0 G k n pc L (.int (zI x) :: st) w
  rw [e]
  exact h
def bUshr (a b : Int) : Int := (((zI a).toUInt32 >>> ((zI b).toUInt32 &&& Int32.toUInt32 31)).toInt32).toInt
theorem x_iushr (Z : gAm b l s0 G cc own nL rm) {x y : Int} (d : decode cc pc = .ok (.iushr, 1)) (kk : gX b s0 G k n (pc + 1) L (iv (bUshr x y) :: st) w) : gX b s0 G k n pc L (iv y :: iv x :: st) w := by
  obtain ⟨hx, hb, -⟩ := Z
  exact fun H locs ls hP hS hl => lv_iushr hx hb d (v := zI (bUshr x y)) (zI_of _).symm (kk H locs ls hP hS hl)
theorem x_ineg (Z : gAm b l s0 G cc own nL rm) {x : Int} (d : decode cc pc = .ok (.ineg, 1)) (kk : gX b s0 G k n (pc + 1) L (iv (-x) :: st) w) : gX b s0 G k n pc L (iv x :: st) w := by
  obtain ⟨hx, hb, -⟩ := Z
  exact fun H locs ls hP hS hl => lv_ineg hx hb d (by rw [zI_neg]; exact kk H locs ls hP hS hl)
theorem x_ldcw (Z : gAm b l s0 G cc own nL rm) {i : Nat} {v : Int32} {z : Int} (hc : Cond.constant own i v ∈ gT) (hz : v = zI z) (d : decode cc pc = .ok (.ldc_w i, 3)) (kk : gX b s0 G k n (pc + 3) L (iv z :: st) w) : gX b s0 G k n pc L st w := by
  have hc' := Z.word hc
  obtain ⟨hx, hb, ho, -⟩ := Z
  subst hz
  exact fun H locs ls hP hS hl => lv_ldcw hx hb ho hc' d (kk H locs ls hP hS hl)
theorem x_mmin (Z : gAm b l s0 G cc own nL rm) {idx : Nat} {x y : Int} (h1 : Cond.methodLink own idx Lib.Math.min.name ∈ gT) (h2 : Cond.static Lib.Math.min.name ∈ gT) (h3 : Cond.initialized "java/lang/Math" ∈ gT) (h4 : Cond.code Lib.Math.min.name Lib.Math.min.code 2 (some .int) ∈ gT) (d : decode cc pc = .ok (.invokestatic idx, 3)) (hx0 : inr x) (hy0 : inr y) (hfr : 1 ≤ rm.frames) (hlo : (st.map fun v => v.category).sum + 13 ≤ rm.locals) (hk : k ≤ rm.cells) (hn : n ≤ rm.slots) (kk : gX b s0 G k n (pc + 3) L (iv (if y < x then y else x) :: st) w) : gX b s0 G k n pc L (iv y :: iv x :: st) w := by
  have w1 := Z.word h1
  have w2 := Z.word h2
  have w3 := Z.word h3
  have w4 := Z.word h4
  obtain ⟨hx, hb, ho, -, -, -, -, hml, hR, -⟩ := Z
  have e : iv (if y < x then y else x) = .int (if zI y < zI x then zI y else zI x) := by
    by_cases h : y < x
    · rw [if_pos h, if_pos ((zI_lt hy0.1 hy0.2 hx0.1 hx0.2).mpr h)]
    · rw [if_neg h, if_neg (fun q => h ((zI_lt hy0.1 hy0.2 hx0.1 hx0.2).mp q))]
  rw [e] at kk
  exact fun H locs ls hP hS hl => va_mmin hx hb (hml.trans (hl.1.trans hml).symm) ho w1 w2 w3 w4 (by rw [hR]; exact hfr) (by rw [hR]; exact hlo) (by rw [hR]; exact hk) (by rw [hR]; exact hn) d (kk H locs ls hP hS hl)
theorem x_mmax (Z : gAm b l s0 G cc own nL rm) {idx : Nat} {x y : Int} (h1 : Cond.methodLink own idx Lib.Math.max.name ∈ gT) (h2 : Cond.static Lib.Math.max.name ∈ gT) (h3 : Cond.initialized "java/lang/Math" ∈ gT) (h4 : Cond.code Lib.Math.max.name Lib.Math.max.code 2 (some .int) ∈ gT) (d : decode cc pc = .ok (.invokestatic idx, 3)) (hx0 : inr x) (hy0 : inr y) (hfr : 1 ≤ rm.frames) (hlo : (st.map fun v => v.category).sum + 13 ≤ rm.locals) (hk : k ≤ rm.cells) (hn : n ≤ rm.slots) (kk : gX b s0 G k n (pc + 3) L (iv (if x < y then y else x) :: st) w) : gX b s0 G k n pc L (iv y :: iv x :: st) w := by
  have w1 := Z.word h1
  have w2 := Z.word h2
  have w3 := Z.word h3
  have w4 := Z.word h4
  obtain ⟨hx, hb, ho, -, -, -, -, hml, hR, -⟩ := Z
  have e : iv (if x < y then y else x) = .int (if zI x < zI y then zI y else zI x) := by
    by_cases h : x < y
    · rw [if_pos h, if_pos ((zI_lt hx0.1 hx0.2 hy0.1 hy0.2).mpr h)]
    · rw [if_neg h, if_neg (fun q => h ((zI_lt hx0.1 hx0.2 hy0.1 hy0.2).mp q))]
  rw [e] at kk
  exact fun H locs ls hP hS hl => va_mmax hx hb (hml.trans (hl.1.trans hml).symm) ho w1 w2 w3 w4 (by rw [hR]; exact hfr) (by rw [hR]; exact hlo) (by rw [hR]; exact hk) (by rw [hR]; exact hn) d (kk H locs ls hP hS hl)
end GT
/-- Integer.bitCount, as the JDK counts -/
def bcn (x : Int) : Int :=
  let a := x - bAnd (bUshr x 1) 1431655765
  let b := bAnd a 858993459 + bAnd (bUshr a 2) 858993459
  let c := bAnd (b + bUshr b 4) 252645135
  let d := c + bUshr c 8
  let e := d + bUshr d 16
  bAnd e 63
theorem bcn_in (x : Int) : inr (bcn x) := bAnd_in _ _
theorem bDiv2 {n : Int} (h0 : 0 ≤ n) (h9 : n ≤ 30) : bDiv n 2 = n / 2 := by
  have h : ∀ k : Fin 31, bDiv ((k.val : Nat) : Int) 2 = ((k.val : Nat) : Int) / 2 := by decide +kernel
  have e := h ⟨n.toNat, by omega⟩
  have e2 : ((n.toNat : Nat) : Int) = n := Int.toNat_of_nonneg h0
  rw [e2] at e
  exact e
theorem bB_in (x : Int) : -128 ≤ bB x ∧ bB x ≤ 127 := by
  unfold bB
  rw [Int8.toInt_toInt32]
  exact ⟨Int8.le_toInt _, by have := Int8.toInt_lt (zI x).toInt8; omega⟩
def tSelf (a r bb a2 r2 bb2 : Nat) : Prop := (a2 = a ∧ r2 = r ∧ bb2 = bb) ∨ (¬ tP a r bb a2 ∧ ¬ tP a r bb r2 ∧ ¬ tP a r bb bb2)
theorem tSelf.oth {G : gK} {w w1 : wd} {a r bb a2 r2 bb2 : Nat} {n n2 : Int} {C B C2 B2 : Int → Int} (hs : tSelf a r bb a2 r2 bb2) (ht : tX G w1 a r bb n C B) (ht2 : tX G w a2 r2 bb2 n2 C2 B2) (hf : fr (tP a r bb) w w1) : ∃ n3 D, w1 a2 = some (eO 2 [rv r2, iv n3, rv bb2]) ∧ w1 r2 = some (eB G 30 (sgF D)) ∧ ∀ j, 0 ≤ D j ∧ D j ≤ 255 := by
  rcases hs with ⟨rfl, rfl, rfl⟩ | ⟨h1, h2, h3⟩
  · exact ⟨n, C, ht.1, ht.2.1, ht.2.2.2.2.2⟩
  · exact ⟨n2, C2, hf.at h1 ht2.1, hf.at h2 ht2.2.1, ht2.2.2.2.2.2⟩
theorem kS.self {G : gK} {w : wd} {K : kA} {M : kM} (h : kS G w K M) {i j : Int} (i0 : 0 ≤ i) (i3 : i < 3) (j0 : 0 ≤ j) (j3 : j < 3) : tSelf (K.2.2.1 i) (K.2.2.2.1 i) (K.2.2.2.2 i) (K.2.2.1 j) (K.2.2.2.1 j) (K.2.2.2.2 j) := by
  obtain ⟨-, -, a4, a5⟩ := h
  by_cases e : j = i
  · subst e
    exact Or.inl ⟨rfl, rfl, rfl⟩
  · obtain ⟨Bi, hti⟩ := a4 i i0 i3
    obtain ⟨Bj, htj⟩ := a4 j j0 j3
    obtain ⟨e1, e2, e3⟩ := a5 j i j0 j3 i0 i3 e
    refine Or.inr ⟨?_, ?_, ?_⟩
    · rintro (z | z | z)
      · exact e1 z
      · exact tne 1000002 60 htj.1 hti.2.1 rfl rfl (by decide) z
      · exact tne 1000002 62 htj.1 hti.2.2.1 rfl rfl (by decide) z
    · rintro (z | z | z)
      · exact tne 60 1000002 htj.2.1 hti.1 rfl rfl (by decide) z
      · exact e2 z
      · exact tne 60 62 htj.2.1 hti.2.2.1 rfl rfl (by decide) z
    · rintro (z | z | z)
      · exact tne 62 1000002 htj.2.2.1 hti.1 rfl rfl (by decide) z
      · exact tne 62 60 htj.2.2.1 hti.2.1 rfl rfl (by decide) z
      · exact e3 z
/-- the places at which a piece of the row begins, step by step -/
def bgs (n : Int) (C : Int → Int) (j : Int) (z : Int × Int) : Int × Int := if j = z.1 then (z.1 + lon n C j, bOr z.2 (bShl 1 j)) else z
theorem bgs_t {n : Int} {C : Int → Int} {j e v : Int} (h : j = e) : bgs n C j (e, v) = (e + lon n C j, bOr v (bShl 1 j)) := if_pos h
theorem bgs_f {n : Int} {C : Int → Int} {j e v : Int} (h : j ≠ e) : bgs n C j (e, v) = (e, v) := if_neg h
def beg (n : Int) (C : Int → Int) : Int := (forI (bgs n C) 0 n (0, 0)).2
theorem forF_inv {σ : Type} {f : Int → σ → σ} {P : σ → Prop} (hf : ∀ i v, P v → P (f i v)) : ∀ (k : Nat) (i : Int) (v : σ), P v → P (forF f k i v)
  | 0, _, _, h => h
  | k + 1, i, v, h => forF_inv hf k (i + 1) (f i v) (hf i v h)
theorem forI_inv {σ : Type} {f : Int → σ → σ} {P : σ → Prop} (hf : ∀ i v, P v → P (f i v)) {i n : Int} {v : σ} (h : P v) : P (forI f i n v) := forF_inv hf _ _ _ h
theorem beg_in (n : Int) (C : Int → Int) : inr (beg n C) := forI_inv (P := fun z : Int × Int => inr z.2) (fun i z h => by
  unfold bgs
  split
  · exact bOr_in _ _
  · exact h) ⟨by decide, by decide⟩
theorem msk_in (P : Int → Bool) (n : Int) : inr (msk P n) := forI_inv (P := fun z : Int => inr z) (fun i z h => by
  unfold mstep
  split
  · exact bOr_in _ _
  · exact h) ⟨by decide, by decide⟩
/-- those that stay move up, step by step -/
def sfs (P : Int → Bool) (C : Int → Int) (j : Int) (z : Int × (Int → Int)) : Int × (Int → Int) := if P j = true then (z.1 + 1, uF z.2 z.1 (C j)) else z
theorem sfs_t {P : Int → Bool} {C : Int → Int} {j k : Int} {D : Int → Int} (h : P j = true) : sfs P C j (k, D) = (k + 1, uF D k (C j)) := if_pos h
theorem sfs_f {P : Int → Bool} {C : Int → Int} {j k : Int} {D : Int → Int} (h : P j = false) : sfs P C j (k, D) = (k, D) := if_neg (by rw [h]; decide)
def sft (P : Int → Bool) (n : Int) (C : Int → Int) : Int × (Int → Int) := forI (sfs P C) 0 n (0, C)
theorem sft0 {P : Int → Bool} {n : Int} {C : Int → Int} (h : ∀ j, P j = false) : sft P n C = (0, C) := forI_inv (P := fun z => z = (0, C)) (fun i z hz => by
  subst hz
  exact sfs_f (h i)) rfl
theorem inB0 (c : Int) : inB 0 c = false := by
  unfold inB
  have e : bShr 0 c = 0 := by
    unfold bShr
    rw [zI_0, Int32.zero_shiftRight]
    rfl
  rw [e]
  decide +kernel
end
section
/-! what an act makes of a text: both sides' words; bits of sets of places (bt .. b_sshr: the kit's rows on Int32 by its bits, pasted) -/
def bt (x : Int32) (i : Nat) : Bool := x.toBitVec.getLsbD i
theorem b_ext {x y : Int32} (h : ∀ i, i < 32 → bt x i = bt y i) : x = y := Int32.toBitVec_inj.mp (BitVec.eq_of_getLsbD_eq (fun i hi => h i hi))
theorem b_or (x y : Int32) (i : Nat) : bt (x ||| y) i = (bt x i || bt y i) := by unfold bt; rw [Int32.toBitVec_or, BitVec.getLsbD_or]
theorem b_and (x y : Int32) (i : Nat) : bt (x &&& y) i = (bt x i && bt y i) := by unfold bt; rw [Int32.toBitVec_and, BitVec.getLsbD_and]
theorem b_xor (x y : Int32) (i : Nat) : bt (x ^^^ y) i = (bt x i ^^ bt y i) := by unfold bt; rw [Int32.toBitVec_xor, BitVec.getLsbD_xor]
theorem b_m1 : ∀ i, i < 32 → bt (-1) i = true := by decide +kernel
theorem b_0 (i : Nat) : bt 0 i = false := BitVec.getLsbD_zero
theorem s_l : ∀ n, n < 32 → ((nI n &&& 31).toBitVec.smod 32).toNat = n := by decide +kernel
theorem b_sshr (n : Nat) (hn : n < 32) (x : Int32) {i : Nat} (hi : i < 32) : bt (x >>> (nI n &&& 31)) i = if n + i < 32 then bt x (n + i) else bt x 31 := by
  unfold bt
  rw [Int32.toBitVec_shiftRight]
  show (x.toBitVec.sshiftRight ((nI n &&& 31).toBitVec.smod 32).toNat).getLsbD i = _
  rw [s_l n hn, BitVec.getLsbD_sshiftRight, BitVec.msb_eq_getLsbD_last]
  simp [hi]
theorem zI_pos {c : Int} (h : 0 ≤ c) : zI c = nI c.toNat := by
  have e := zI_nat c.toNat
  rw [Int.toNat_of_nonneg h] at e
  exact e
theorem b_one : ∀ i, i < 32 → bt (zI 1) i = decide (i = 0) := by decide +kernel
theorem bo_f {x : Bool} (h : ¬ x = true) : x = false := by
  cases x with
  | true => exact absurd rfl h
  | false => rfl
theorem and1_bt (x : Int32) : x &&& zI 1 = if bt x 0 = true then zI 1 else zI 0 := by
  apply b_ext
  intro i hi
  rw [b_and, b_one i hi]
  by_cases h : bt x 0 = true
  · rw [if_pos h, b_one i hi]
    by_cases e : i = 0
    · subst e; rw [h]; rfl
    · rw [decide_eq_false e, Bool.and_false]
  · rw [if_neg h, zI_0, b_0]
    by_cases e : i = 0
    · subst e; rw [bo_f h]; rfl
    · rw [decide_eq_false e, Bool.and_false]
theorem inB_bt {m c : Int} (h0 : 0 ≤ c) (h9 : c < 32) : inB m c = bt (zI m) c.toNat := by
  have hc : c.toNat < 32 := by omega
  have h2 : bt (zI m >>> (nI c.toNat &&& 31)) 0 = bt (zI m) c.toNat := by
    rw [b_sshr c.toNat hc (zI m) (by decide), if_pos (by omega), Nat.add_zero]
  unfold inB bAnd bShr
  rw [zI_of, zI_pos h0, and1_bt, h2]
  by_cases h : bt (zI m) c.toNat = true
  · rw [if_pos h, h]; exact decide_eq_true (by decide +kernel)
  · rw [if_neg h, bo_f h]; exact decide_eq_false (by decide +kernel)
set_option maxRecDepth 100000 in
theorem inB_shD : ∀ i : Fin 32, ∀ j : Fin 32, inB (bShl 1 ((i.val : Nat) : Int)) ((j.val : Nat) : Int) = decide (i.val = j.val) := by decide +kernel
theorem inB_sh {i j : Int} (i0 : 0 ≤ i) (i9 : i < 32) (j0 : 0 ≤ j) (j9 : j < 32) : inB (bShl 1 i) j = decide (i = j) := by
  have h : inB (bShl 1 ((i.toNat : Nat) : Int)) ((j.toNat : Nat) : Int) = decide (i.toNat = j.toNat) := inB_shD ⟨i.toNat, by omega⟩ ⟨j.toNat, by omega⟩
  have e1 : ((i.toNat : Nat) : Int) = i := Int.toNat_of_nonneg i0
  have e2 : ((j.toNat : Nat) : Int) = j := Int.toNat_of_nonneg j0
  rw [e1, e2] at h
  rw [h]
  by_cases c : i = j
  · rw [decide_eq_true c]; exact decide_eq_true (by omega)
  · rw [decide_eq_false c]; exact decide_eq_false (by omega)
set_option maxRecDepth 100000 in
theorem inB_allD : ∀ i : Fin 31, ∀ j : Fin 32, inB (bShl 1 ((i.val : Nat) : Int) - 1) ((j.val : Nat) : Int) = decide (j.val < i.val) := by decide +kernel
theorem inB_all {n j : Int} (i0 : 0 ≤ n) (i9 : n ≤ 30) (j0 : 0 ≤ j) (j9 : j < 32) : inB (bShl 1 n - 1) j = decide (j < n) := by
  have h : inB (bShl 1 ((n.toNat : Nat) : Int) - 1) ((j.toNat : Nat) : Int) = decide (j.toNat < n.toNat) := inB_allD ⟨n.toNat, by omega⟩ ⟨j.toNat, by omega⟩
  have e1 : ((n.toNat : Nat) : Int) = n := Int.toNat_of_nonneg i0
  have e2 : ((j.toNat : Nat) : Int) = j := Int.toNat_of_nonneg j0
  rw [e1, e2] at h
  rw [h]
  by_cases c : j < n
  · rw [decide_eq_true c]; exact decide_eq_true (by omega)
  · rw [decide_eq_false c]; exact decide_eq_false (by omega)
theorem inB_or {x y j : Int} (j0 : 0 ≤ j) (j9 : j < 32) : inB (bOr x y) j = (inB x j || inB y j) := by rw [inB_bt j0 j9, inB_bt j0 j9, inB_bt j0 j9, zI_bOr, b_or]
theorem inB_and {x y j : Int} (j0 : 0 ≤ j) (j9 : j < 32) : inB (bAnd x y) j = (inB x j && inB y j) := by rw [inB_bt j0 j9, inB_bt j0 j9, inB_bt j0 j9, zI_bAnd, b_and]
theorem inB_not {x j : Int} (j0 : 0 ≤ j) (j9 : j < 32) : inB (bXor x (-1)) j = !inB x j := by
  rw [inB_bt j0 j9, inB_bt j0 j9, zI_bXor, b_xor, show zI (-1) = -1 by decide +kernel, b_m1 j.toNat (by omega), Bool.xor_true]
/-! loops, side by side -/
theorem forF_rel {σ τ : Type} {f : Int → σ → σ} {g : Int → τ → τ} {R : Int → σ → τ → Prop} : ∀ (k : Nat) (i : Int) (v : σ) (w : τ), R i v w → (∀ j v w, i ≤ j → j < i + (k : Int) → R j v w → R (j + 1) (f j v) (g j w)) → R (i + (k : Int)) (forF f k i v) (forF g k i w)
  | 0, i, v, w, h, _ => by
    rw [show i + ((0 : Nat) : Int) = i by omega]
    exact h
  | k + 1, i, v, w, h, hs => by
    have e := forF_rel k (i + 1) (f i v) (g i w) (hs i v w (Int.le_refl _) (by omega) h) (fun j v w h1 h2 h3 => hs j v w (by omega) (by omega) h3)
    rw [show i + ((k + 1 : Nat) : Int) = i + 1 + (k : Int) by omega]
    exact e
theorem forI_rel {σ τ : Type} {f : Int → σ → σ} {g : Int → τ → τ} {R : Int → σ → τ → Prop} {i n : Int} (hin : i ≤ n) {v : σ} {w : τ} (h : R i v w) (hs : ∀ j v w, i ≤ j → j < n → R j v w → R (j + 1) (f j v) (g j w)) : R n (forI f i n v) (forI g i n w) := by
  have e := forF_rel (R := R) (f := f) (g := g) (n - i).toNat i v w h (fun j v w h1 h2 h3 => hs j v w h1 (by omega) h3)
  rw [show i + (((n - i).toNat : Nat) : Int) = n by omega] at e
  exact e
theorem forI_ind {σ : Type} {f : Int → σ → σ} {P : Int → σ → Prop} {i n : Int} (hin : i ≤ n) {v : σ} (h : P i v) (hs : ∀ j v, i ≤ j → j < n → P j v → P (j + 1) (f j v)) : P n (forI f i n v) :=
  forI_rel (g := f) (R := fun i z (_ : σ) => P i z) (w := v) hin h (fun j v _ h1 h2 h3 => hs j v h1 h2 h3)
theorem inB_msk {P : Int → Bool} {n j : Int} (n0 : 0 ≤ n) (n9 : n ≤ 31) (j0 : 0 ≤ j) (j9 : j < 32) : inB (msk P n) j = (decide (j < n) && P j) := by
  have hs : ∀ (i v : Int), 0 ≤ i → i < n → inB v j = (decide (j < i) && P j) → inB (mstep P i v) j = (decide (j < i + 1) && P j) := by
    intro i v h1 h2 h3
    have hc : i ≠ j → decide (j < i) = decide (j < i + 1) := fun e => by
      by_cases c : j < i
      · rw [decide_eq_true c, decide_eq_true (by omega)]
      · rw [decide_eq_false c, decide_eq_false (by omega)]
    cases hp : P i with
    | true =>
      rw [mstep_t hp, inB_or j0 j9, h3, inB_sh h1 (by omega) j0 j9]
      by_cases e : i = j
      · subst e
        rw [hp, decide_eq_true (show i < i + 1 by omega), decide_eq_true (show i = i from rfl), Bool.or_true]; rfl
      · rw [decide_eq_false e, Bool.or_false, hc e]
    | false =>
      rw [mstep_f hp, h3]
      by_cases e : i = j
      · subst e
        rw [hp, Bool.and_false, Bool.and_false]
      · rw [hc e]
  exact forI_ind (P := fun i v => inB v j = (decide (j < i) && P j)) n0 (by show inB 0 j = (decide (j < 0) && P j); rw [inB0, decide_eq_false (by omega)]; rfl) hs
theorem inB_keep {Q : Int → Bool} {n j : Int} {o : Bool} (n0 : 0 ≤ n) (n9 : n ≤ 30) (j0 : 0 ≤ j) (jn : j < n) : inB (cond o (msk Q n) (bAnd (bShl 1 n - 1) (bXor (msk Q n) (-1)))) j = (Q j == o) := by
  cases o with
  | true =>
    show inB (msk Q n) j = _
    rw [inB_msk n0 (by omega) j0 (by omega), decide_eq_true jn]
    cases Q j <;> rfl
  | false =>
    show inB (bAnd (bShl 1 n - 1) (bXor (msk Q n) (-1))) j = _
    rw [inB_and j0 (by omega), inB_all n0 n9 j0 (by omega), inB_not j0 (by omega), inB_msk n0 (by omega) j0 (by omega), decide_eq_true jn]
    cases Q j <;> rfl
theorem inB_drop {n p j : Int} (n0 : 0 ≤ n) (n9 : n ≤ 30) (p0 : 0 ≤ p) (p9 : p < n) (j0 : 0 ≤ j) (jn : j < n) : inB (bAnd (bShl 1 n - 1) (bXor (bShl 1 p) (-1))) j = decide (j ≠ p) := by
  rw [inB_and j0 (by omega), inB_all n0 n9 j0 (by omega), inB_not j0 (by omega), inB_sh p0 (by omega) j0 (by omega), decide_eq_true jn]
  by_cases c : p = j
  · rw [decide_eq_true c, decide_eq_false (fun h => h c.symm)]; rfl
  · rw [decide_eq_false c]; exact (decide_eq_true (show j ≠ p from fun h => c h.symm)).symm
/-! places that are found -/
theorem findF_no {P : Int → Bool} : ∀ (k : Nat) (i j : Int), i ≤ j → j < findF P k i → P j = false
  | 0, i, j, h1, h2 => by
    have h3 : j < i := h2
    omega
  | k + 1, i, j, h1, h2 => by
    cases hp : P i with
    | true =>
      have h3 : findF P (k + 1) i = i := by show (match P i with | true => i | false => findF P k (i + 1)) = i; rw [hp]
      omega
    | false =>
      have h3 : findF P (k + 1) i = findF P k (i + 1) := by show (match P i with | true => i | false => findF P k (i + 1)) = _; rw [hp]
      rcases (by omega : j = i ∨ i + 1 ≤ j) with e | e
      · rw [e]; exact hp
      · exact findF_no k (i + 1) j e (by omega)
theorem findF_yes {P : Int → Bool} : ∀ (k : Nat) (i : Int), findF P k i < i + (k : Int) → P (findF P k i) = true
  | 0, i, h => by
    have h3 : i < i + ((0 : Nat) : Int) := h
    omega
  | k + 1, i, h => by
    cases hp : P i with
    | true =>
      have h3 : findF P (k + 1) i = i := by show (match P i with | true => i | false => findF P k (i + 1)) = i; rw [hp]
      rw [h3]; exact hp
    | false =>
      have h3 : findF P (k + 1) i = findF P k (i + 1) := by show (match P i with | true => i | false => findF P k (i + 1)) = _; rw [hp]
      rw [h3] at h ⊢
      exact findF_yes k (i + 1) (by omega)
theorem findI_no {P : Int → Bool} {i n j : Int} (h1 : i ≤ j) (h2 : j < findI P i n) : P j = false := findF_no _ i j h1 h2
theorem findI_yes {P : Int → Bool} {i n : Int} (h : i ≤ n) (h2 : findI P i n < n) : P (findI P i n) = true := findF_yes _ i (by unfold findI at h2; omega)
theorem findI_all {P : Int → Bool} {i n e : Int} (h1 : i ≤ e) (h2 : e ≤ n) : e ≤ findI P i n ↔ ∀ j, i ≤ j → j < e → P j = false := by
  constructor
  · exact fun h j hj he => findI_no (n := n) hj (by omega)
  · intro h
    rcases (by omega : findI P i n < e ∨ e ≤ findI P i n) with q | q
    · have h3 := findI_yes (P := P) (i := i) (n := n) (by omega) (by omega)
      have h4 := (findI_in (P := P) (i := i) (n := n) (by omega)).1
      rw [h _ h4 q] at h3
      cases h3
    · exact q
theorem findI_cg {P Q : Int → Bool} {i n : Int} (h : i ≤ n) (hp : ∀ j, i ≤ j → j < n → P j = Q j) : findI P i n = findI Q i n := by
  have a := findI_in (P := P) h
  have b := findI_in (P := Q) h
  have c := (findI_all (P := P) (e := findI Q i n) b.1 b.2).mpr (fun j h1 h2 => by rw [hp j h1 (by omega)]; exact findI_no (n := n) h1 h2)
  have d := (findI_all (P := Q) (e := findI P i n) a.1 a.2).mpr (fun j h1 h2 => by rw [← hp j h1 (by omega)]; exact findI_no (n := n) h1 h2)
  omega
/-! signs that move -/
def shf (i n : Int) (C : Int → Int) : Int → Int := fun j => if i < j ∧ j ≤ n then C (j - 1) else C j
theorem shf_n {n : Int} {C : Int → Int} : shf n n C = C := funext fun j => if_neg (by omega)
theorem shf_s {i n : Int} {C : Int → Int} (h : i ≤ n) : uF (shf i n C) i (shf i n C (i - 1)) = shf (i + -1) n C := funext fun j => by
  unfold uF shf
  by_cases e : j = i
  · rw [if_pos e, if_neg (by omega), if_pos (by omega), e]
  · rw [if_neg e]
    by_cases h1 : i < j ∧ j ≤ n
    · rw [if_pos h1, if_pos (by omega)]
    · rw [if_neg h1, if_neg (by omega)]
/-- s put in at p of n signs -/
def tins (n p s : Int) (C : Int → Int) : Int → Int := uF (shf p n C) p s
/-- m signs of D from f on, then C -/
def bcm (f m : Int) (D C : Int → Int) : Int → Int := fun j => if 0 ≤ j ∧ j < m then D (f + j) else C j
theorem bcm_0 {f : Int} {D C : Int → Int} : bcm f 0 D C = C := funext fun j => if_neg (by omega)
theorem bcm_s {f m x : Int} {D C : Int → Int} (h0 : 0 ≤ m) (hx : x = D (f + m)) : uF (bcm f m D C) m x = bcm f (m + 1) D C := funext fun j => by
  unfold uF bcm
  by_cases e : j = m
  · rw [if_pos e, if_pos (by omega), hx, e]
  · rw [if_neg e]
    by_cases h1 : 0 ≤ j ∧ j < m
    · rw [if_pos h1, if_pos (by omega)]
    · rw [if_neg h1, if_neg (by omega)]
/-- n of C, m of D behind them -/
def tapp (n m : Int) (D C : Int → Int) : Int → Int := fun j => if n ≤ j ∧ j < n + m then D (j - n) else C j
theorem tapp_0 {n : Int} {D C : Int → Int} : tapp n 0 D C = C := funext fun j => if_neg (by omega)
theorem tapp_s {n m x : Int} {D C : Int → Int} (h0 : 0 ≤ m) (hx : x = D m) : uF (tapp n m D C) (n + m) x = tapp n (m + 1) D C := funext fun j => by
  unfold uF tapp
  by_cases e : j = n + m
  · rw [if_pos e, if_pos (by omega), hx, e]
    congr 1
    omega
  · rw [if_neg e]
    by_cases h1 : n ≤ j ∧ j < n + m
    · rw [if_pos h1, if_pos (by omega)]
    · rw [if_neg h1, if_neg (by omega)]
/-- i signs from each end turned -/
def trv (i n : Int) (C : Int → Int) : Int → Int := fun j => if (0 ≤ j ∧ j < i) ∨ (n - i ≤ j ∧ j < n) then C (n - 1 - j) else C j
theorem trv_0 {n : Int} {C : Int → Int} : trv 0 n C = C := funext fun j => if_neg (by omega)
theorem bcm_o {f m j : Int} {D C : Int → Int} (h : ¬ (0 ≤ j ∧ j < m)) : bcm f m D C j = C j := if_neg h
theorem tapp_o {n m j : Int} {D C : Int → Int} (h : ¬ (n ≤ j ∧ j < n + m)) : tapp n m D C j = C j := if_neg h
def tSelfC (a r bb : Nat) (n : Int) (C : Int → Int) (a2 r2 bb2 : Nat) (n2 : Int) (C2 : Int → Int) : Prop := (a2 = a ∧ r2 = r ∧ bb2 = bb ∧ n2 = n ∧ C2 = C) ∨ (¬ tP a r bb a2 ∧ ¬ tP a r bb r2 ∧ ¬ tP a r bb bb2)
theorem tSelfC.oth {G : gK} {w w1 : wd} {a r bb a2 r2 bb2 : Nat} {n n1 n2 : Int} {C C1 B1 C2 B2 : Int → Int} (hs : tSelfC a r bb n C a2 r2 bb2 n2 C2) (ht : tX G w1 a r bb n1 C1 B1) (ht2 : tX G w a2 r2 bb2 n2 C2 B2) (hf : fr (tP a r bb) w w1) : ∃ n3 D, w1 a2 = some (eO 2 [rv r2, iv n3, rv bb2]) ∧ w1 r2 = some (eB G 30 (sgF D)) ∧ (∀ j, 0 ≤ D j ∧ D j ≤ 255) ∧ (D = C2 ∨ (D = C1 ∧ C2 = C ∧ n2 = n)) := by
  rcases hs with ⟨rfl, rfl, rfl, e1, e2⟩ | ⟨h1, h2, h3⟩
  · exact ⟨n1, C1, ht.1, ht.2.1, ht.2.2.2.2.2, Or.inr ⟨rfl, e2, e1⟩⟩
  · exact ⟨n2, C2, hf.at h1 ht2.1, hf.at h2 ht2.2.1, ht2.2.2.2.2.2, Or.inl rfl⟩
theorem kS.selfC {G : gK} {w : wd} {K : kA} {M : kM} (h : kS G w K M) {i j : Int} (i0 : 0 ≤ i) (i3 : i < 3) (j0 : 0 ≤ j) (j3 : j < 3) : tSelfC (K.2.2.1 i) (K.2.2.2.1 i) (K.2.2.2.2 i) (M.1 i) (M.2.1 i) (K.2.2.1 j) (K.2.2.2.1 j) (K.2.2.2.2 j) (M.1 j) (M.2.1 j) := by
  rcases h.self i0 i3 j0 j3 with ⟨e1, e2, e3⟩ | q
  · by_cases e : j = i
    · subst e
      exact Or.inl ⟨rfl, rfl, rfl, rfl, rfl⟩
    · exact absurd e1 (h.2.2.2 j i j0 j3 i0 i3 e).1
  · exact Or.inr q
theorem bB_inj {x y : Int} (hx : 0 ≤ x ∧ x ≤ 255) (hy : 0 ≤ y ∧ y ≤ 255) (h : bB x = bB y) : x = y := by
  have e := sgn_byte hx.1 hx.2
  rw [h, sgn_byte hy.1 hy.2] at e
  exact e.symm
theorem trv_s {i n : Int} {C : Int → Int} (h0 : 0 ≤ i) (h1 : i < n - 1 - i) : uF (uF (trv i n C) i (trv i n C (n - 1 - i))) (n - 1 - i) (trv i n C i) = trv (i + 1) n C := funext fun j => by
  have e1 : trv i n C (n - 1 - i) = C (n - 1 - i) := if_neg (by omega)
  have e2 : trv i n C i = C i := if_neg (by omega)
  rw [e1, e2]
  unfold uF trv
  by_cases a : j = n - 1 - i
  · rw [if_pos a, if_pos (by omega), a]
    congr 1
    omega
  · rw [if_neg a]
    by_cases b : j = i
    · rw [if_pos b, if_pos (by omega), b]
    · rw [if_neg b]
      by_cases c : (0 ≤ j ∧ j < i) ∨ (n - i ≤ j ∧ j < n)
      · rw [if_pos c, if_pos (by omega)]
      · rw [if_neg c, if_neg (by omega)]
theorem trv_i {i n : Int} {C : Int → Int} (h1 : i < n - 1 - i) : trv i n C (n - 1 - i) = C (n - 1 - i) ∧ trv i n C i = C i := ⟨if_neg (by omega), if_neg (by omega)⟩
theorem trv_e {i n j : Int} {C : Int → Int} (h : n ≤ 2 * i + 1) (h2 : 2 * i ≤ n) (j0 : 0 ≤ j) (jn : j < n) : trv i n C j = C (n - 1 - j) := by
  unfold trv
  by_cases c : (0 ≤ j ∧ j < i) ∨ (n - i ≤ j ∧ j < n)
  · rw [if_pos c]
  · rw [if_neg c]
    congr 1
    omega
/-- another sign stands turned round at one of the first i places -/
def trx (i n : Int) (C : Int → Int) : Prop := ∃ j, 0 ≤ j ∧ j < i ∧ C j ≠ C (n - 1 - j)
theorem trq_0 {n : Int} {C : Int → Int} : (false = true ↔ trx 0 n C) := ⟨(fun h => by cases h), fun ⟨j, h1, h2, _⟩ => by omega⟩
theorem trq_1 {i n : Int} {C : Int → Int} {o : Bool} (ho : o = true ↔ trx i n C) (c : o = true) : (true = true ↔ trx (i + 1) n C) := ⟨fun _ => by
  obtain ⟨j, h1, h2, h3⟩ := ho.mp c
  exact ⟨j, h1, by omega, h3⟩, fun _ => rfl⟩
theorem trq_2 {i n : Int} {C : Int → Int} (h0 : 0 ≤ i) (c : C i ≠ C (n - 1 - i)) : (true = true ↔ trx (i + 1) n C) := ⟨fun _ => ⟨i, h0, by omega, c⟩, fun _ => rfl⟩
theorem trq_3 {i n : Int} {C : Int → Int} {o : Bool} (ho : o = true ↔ trx i n C) (c : o = false) (e : C i = C (n - 1 - i)) : (false = true ↔ trx (i + 1) n C) := ⟨(fun h => by cases h), fun ⟨j, h1, h2, h3⟩ => by
  rcases (by omega : j < i ∨ j = i) with q | q
  · have := ho.mpr ⟨j, h1, q, h3⟩
    rw [c] at this
    cases this
  · rw [q] at h3
    exact absurd e h3⟩
theorem trx_h {i n : Int} {C : Int → Int} (h : n ≤ 2 * i + 1) (h2 : 2 * i ≤ n) : trx i n C ↔ trx n n C := by
  constructor
  · rintro ⟨j, j0, j1, hj⟩
    exact ⟨j, j0, by omega, hj⟩
  · rintro ⟨j, j0, j1, hj⟩
    rcases (by omega : j < i ∨ n - 1 - j < i ∨ n - 1 - j = j) with q | q | q
    · exact ⟨j, j0, q, hj⟩
    · exact ⟨n - 1 - j, by omega, q, fun e => hj (by rw [e]; congr 1; omega)⟩
    · rw [q] at hj
      exact absurd rfl hj
theorem trn_iff {n : Int} {C : Int → Int} (hn : 0 ≤ n) : findI (fun j => decide (C j ≠ C (n - 1 - j))) 0 n < n ↔ trx n n C := by
  have h1 := findI_in (P := fun j => decide (C j ≠ C (n - 1 - j))) hn
  constructor
  · intro h
    exact ⟨_, h1.1, h, of_decide_eq_true (findI_yes (P := fun j => decide (C j ≠ C (n - 1 - j))) hn h)⟩
  · rintro ⟨j, j0, jn, hj⟩
    rcases (by omega : findI (fun j => decide (C j ≠ C (n - 1 - j))) 0 n < n ∨ j < findI (fun j => decide (C j ≠ C (n - 1 - j))) 0 n) with q | q
    · exact q
    · exact absurd hj (of_decide_eq_false (findI_no (P := fun j => decide (C j ≠ C (n - 1 - j))) j0 q))
/-! alike below n; what an act comes to -/
def tEq (n : Int) (C D : Int → Int) : Prop := ∀ j, 0 ≤ j → j < n → C j = D j
theorem tEq.rf {n : Int} {C : Int → Int} : tEq n C C := fun _ _ _ => rfl
theorem tEq.sm {n : Int} {C D : Int → Int} (h : tEq n C D) : tEq n D C := fun j h1 h2 => (h j h1 h2).symm
theorem tEq.tr {n : Int} {C D E : Int → Int} (h : tEq n C D) (h2 : tEq n D E) : tEq n C E := fun j h3 h4 => (h j h3 h4).trans (h2 j h3 h4)
theorem bcm_eq {f m : Int} {D C : Int → Int} : tEq m (bcm f m D C) (fun j => D (f + j)) := fun _ h1 h2 => if_pos ⟨h1, h2⟩
theorem bcm_eq0 {m : Int} {D C : Int → Int} : tEq m (bcm 0 m D C) D := fun j h1 h2 => (if_pos ⟨h1, h2⟩).trans (by rw [Int.zero_add])
theorem tins_cg {n p s : Int} {C D : Int → Int} (h : tEq n C D) (p0 : 0 ≤ p) (pn : p ≤ n) : tEq (n + 1) (tins n p s C) (tins n p s D) := fun j j0 jn => by
  unfold tins uF shf
  by_cases e : j = p
  · rw [if_pos e, if_pos e]
  · rw [if_neg e, if_neg e]
    by_cases c : p < j ∧ j ≤ n
    · rw [if_pos c, if_pos c]; exact h _ (by omega) (by omega)
    · rw [if_neg c, if_neg c]
      rcases (by omega : j < n ∨ j = n) with q | q
      · exact h _ j0 q
      · omega
theorem tapp_cg {n m : Int} {C D C2 D2 : Int → Int} (h : tEq n C D) (h2 : tEq m C2 D2) : tEq (n + m) (tapp n m C2 C) (tapp n m D2 D) := fun j j0 jn => by
  unfold tapp
  by_cases c : n ≤ j ∧ j < n + m
  · rw [if_pos c, if_pos c]; exact h2 _ (by omega) (by omega)
  · rw [if_neg c, if_neg c]; exact h _ j0 (by omega)
theorem sft_cg {P Q : Int → Bool} {n : Int} {C D : Int → Int} (hn : 0 ≤ n) (hP : ∀ j, 0 ≤ j → j < n → P j = Q j) (hC : tEq n C D) : (sft P n C).1 = (sft Q n D).1 ∧ tEq (sft P n C).1 (sft P n C).2 (sft Q n D).2 := by
  have hs : ∀ (j : Int) (v w : Int × (Int → Int)), 0 ≤ j → j < n → (v.1 = w.1 ∧ 0 ≤ v.1 ∧ v.1 ≤ j ∧ tEq v.1 v.2 w.2) → ((sfs P C j v).1 = (sfs Q D j w).1 ∧ 0 ≤ (sfs P C j v).1 ∧ (sfs P C j v).1 ≤ j + 1 ∧ tEq (sfs P C j v).1 (sfs P C j v).2 (sfs Q D j w).2) := by
    rintro j ⟨k, E⟩ ⟨k2, E2⟩ h1 h2 ⟨e, h0, hk, hE⟩
    have e : k = k2 := e
    subst e
    cases hp : P j with
    | true =>
      rw [sfs_t hp, sfs_t (by rw [← hP j h1 h2]; exact hp)]
      refine ⟨rfl, ?_, ?_, ?_⟩
      · show 0 ≤ k + 1
        have : 0 ≤ k := h0
        omega
      · show k + 1 ≤ j + 1
        have : k ≤ j := hk
        omega
      · intro i i0 i1
        have i1 : i < k + 1 := i1
        show uF E k (C j) i = uF E2 k (D j) i
        unfold uF
        by_cases q : i = k
        · rw [if_pos q, if_pos q]; exact hC j h1 h2
        · rw [if_neg q, if_neg q]; exact hE i i0 (by show i < k; omega)
    | false =>
      rw [sfs_f hp, sfs_f (by rw [← hP j h1 h2]; exact hp)]
      exact ⟨rfl, h0, by have : k ≤ j := hk; show k ≤ j + 1; omega, hE⟩
  have h := forI_rel (f := sfs P C) (g := sfs Q D) (R := fun i z y => z.1 = y.1 ∧ 0 ≤ z.1 ∧ z.1 ≤ i ∧ tEq z.1 z.2 y.2) (i := 0) (n := n) hn (v := ((0 : Int), C)) (w := ((0 : Int), D)) ⟨rfl, Int.le_refl _, Int.le_refl _, fun j h1 h2 => absurd h2 (by show ¬ j < 0; omega)⟩ hs
  exact ⟨h.1, h.2.2.2⟩
theorem sft_in {P : Int → Bool} {n : Int} {C : Int → Int} (hn : 0 ≤ n) : 0 ≤ (sft P n C).1 ∧ (sft P n C).1 ≤ n :=
  forI_ind (f := sfs P C) (P := fun i (z : Int × (Int → Int)) => 0 ≤ z.1 ∧ z.1 ≤ i) (i := 0) (n := n) hn (v := ((0 : Int), C)) ⟨Int.le_refl _, Int.le_refl _⟩ (fun j v h1 h2 h3 => by
    obtain ⟨k, E⟩ := v
    have h4 : 0 ≤ k ∧ k ≤ j := h3
    cases hp : P j with
    | true =>
      rw [sfs_t hp]
      show 0 ≤ k + 1 ∧ k + 1 ≤ j + 1
      omega
    | false =>
      rw [sfs_f hp]
      show 0 ≤ k ∧ k ≤ j + 1
      omega)
theorem sft_drop {P : Int → Bool} {n p : Int} {C : Int → Int} (p0 : 0 ≤ p) (pn : p < n) (hP : ∀ j, 0 ≤ j → j < n → P j = decide (j ≠ p)) : (sft P n C).1 = n - 1 ∧ tEq (n - 1) (sft P n C).2 (fun j => if j < p then C j else C (j + 1)) := by
  have hs : ∀ (j : Int) (v : Int × (Int → Int)), 0 ≤ j → j < n → (v.1 = (if j ≤ p then j else j - 1) ∧ tEq v.1 v.2 (fun j => if j < p then C j else C (j + 1))) → ((sfs P C j v).1 = (if j + 1 ≤ p then j + 1 else j + 1 - 1) ∧ tEq (sfs P C j v).1 (sfs P C j v).2 (fun j => if j < p then C j else C (j + 1))) := by
    rintro j ⟨k, E⟩ h1 h2 ⟨e, hE⟩
    have e : k = (if j ≤ p then j else j - 1) := e
    by_cases q : j = p
    · rw [sfs_f (by rw [hP j h1 h2]; exact decide_eq_false (fun h => h q))]
      refine ⟨?_, hE⟩
      show k = (if j + 1 ≤ p then j + 1 else j + 1 - 1)
      rw [e, if_pos (by omega), if_neg (by omega)]
      omega
    · rw [sfs_t (by rw [hP j h1 h2]; exact decide_eq_true q)]
      refine ⟨?_, fun i i0 i1 => ?_⟩
      · show k + 1 = (if j + 1 ≤ p then j + 1 else j + 1 - 1)
        rw [e]
        by_cases c : j ≤ p
        · rw [if_pos c, if_pos (by omega)]
        · rw [if_neg c, if_neg (by omega)]; omega
      · have i1 : i < k + 1 := i1
        show uF E k (C j) i = if i < p then C i else C (i + 1)
        unfold uF
        by_cases c : i = k
        · rw [if_pos c]
          by_cases c2 : j ≤ p
          · rw [if_pos c2] at e
            rw [if_pos (show i < p by omega), c, e]
          · rw [if_neg c2] at e
            rw [if_neg (show ¬ i < p by omega)]
            congr 1
            omega
        · rw [if_neg c]
          exact hE i i0 (by show i < k; omega)
  have h := forI_ind (f := sfs P C) (P := fun j (v : Int × (Int → Int)) => v.1 = (if j ≤ p then j else j - 1) ∧ tEq v.1 v.2 (fun j => if j < p then C j else C (j + 1))) (i := 0) (n := n) (by omega) (v := ((0 : Int), C)) ⟨by show (0 : Int) = if (0 : Int) ≤ p then 0 else 0 - 1; rw [if_pos p0], fun j h1 h2 => absurd h2 (by show ¬ j < 0; omega)⟩ hs
  obtain ⟨e, h2⟩ := h
  have e : (sft P n C).1 = n - 1 := e.trans (if_neg (by omega))
  exact ⟨e, by rw [← e]; exact h2⟩
/-! the places at which the pieces begin, one by one -/
def plc (n : Int) (C : Int → Int) : Nat → Int
  | 0 => 0
  | m + 1 => if plc n C m < n then plc n C m + lon n C (plc n C m) else plc n C m
def pbg (n : Int) (C : Int → Int) (k : Int) : Int := if plc n C k.toNat < n then plc n C k.toNat else -1
theorem plc_s {n : Int} {C : Int → Int} {m : Nat} (h : plc n C m < n) : plc n C (m + 1) = plc n C m + lon n C (plc n C m) := if_pos h
theorem plc_c {n : Int} {C : Int → Int} {m : Nat} (h : n ≤ plc n C m) : ∀ j : Nat, plc n C (m + j) = plc n C m
  | 0 => rfl
  | j + 1 => by
    have e := plc_c h j
    show (if plc n C (m + j) < n then _ else plc n C (m + j)) = _
    rw [if_neg (by omega), e]
theorem plc_e {n : Int} {C : Int → Int} {i k p : Int} (hk : 0 ≤ i ∧ i ≤ k) (e : p = plc n C i.toNat) (h : k ≤ i ∨ n ≤ p) : plc n C k.toNat = p := by
  by_cases q : i = k
  · rw [← q, e]
  · have h2 : n ≤ plc n C i.toNat := by omega
    have h3 := plc_c h2 (k.toNat - i.toNat)
    rw [show i.toNat + (k.toNat - i.toNat) = k.toNat by omega] at h3
    rw [h3, e]
theorem pbg_t {n : Int} {C : Int → Int} {k p : Int} (h : plc n C k.toNat = p) (hp : p < n) : pbg n C k = p := by
  unfold pbg
  rw [h, if_pos hp]
theorem pbg_f {n : Int} {C : Int → Int} {k p : Int} (h : plc n C k.toNat = p) (hp : n ≤ p) : pbg n C k = -1 := by
  unfold pbg
  rw [h, if_neg (by omega)]
theorem plc_in {n : Int} {C : Int → Int} (h : 0 ≤ n) : ∀ m : Nat, 0 ≤ plc n C m ∧ plc n C m ≤ n
  | 0 => ⟨Int.le_refl 0, h⟩
  | m + 1 => by
    have e := plc_in (C := C) h m
    show 0 ≤ (if plc n C m < n then plc n C m + lon n C (plc n C m) else plc n C m) ∧ (if plc n C m < n then plc n C m + lon n C (plc n C m) else plc n C m) ≤ n
    by_cases q : plc n C m < n
    · have hl := lon_in (n := n) (C := C) (p := plc n C m) q
      rw [if_pos q]
      omega
    · rw [if_neg q]
      exact e
theorem pbg_in {n : Int} {C : Int → Int} {k : Int} (h : 0 ≤ n) : (0 ≤ pbg n C k ∧ pbg n C k < n) ∨ pbg n C k = -1 := by
  have e := plc_in (C := C) h k.toNat
  unfold pbg
  split
  · exact Or.inl ⟨e.1, by assumption⟩
  · exact Or.inr rfl
theorem plc_m {n : Int} {C : Int → Int} (a : Nat) : ∀ j : Nat, plc n C a ≤ plc n C (a + j)
  | 0 => Int.le_refl _
  | j + 1 => by
    have e := plc_m (n := n) (C := C) a j
    show plc n C a ≤ (if plc n C (a + j) < n then plc n C (a + j) + lon n C (plc n C (a + j)) else plc n C (a + j))
    by_cases q : plc n C (a + j) < n
    · have hl := lon_in (n := n) (C := C) (p := plc n C (a + j)) q
      rw [if_pos q]
      omega
    · rw [if_neg q]
      exact e
theorem plc_lt {n : Int} {C : Int → Int} {a b : Nat} (h : plc n C a < n) (hab : a < b) : plc n C a < plc n C b := by
  have e := plc_m (n := n) (C := C) (a + 1) (b - (a + 1))
  rw [show a + 1 + (b - (a + 1)) = b by omega, plc_s h] at e
  have hl := lon_in (n := n) (C := C) h
  omega
theorem lon_cg {n p : Int} {C D : Int → Int} (h : tEq n C D) (p0 : 0 ≤ p) (pn : p < n) : lon n C p = lon n D p := by
  unfold lon
  rw [h p p0 pn, findI_cg (Q := fun e => !so (D e) (oth (sb (D p)))) (by omega) (fun j h1 h2 => by show (!so (C j) _) = _; rw [h j (by omega) h2])]
theorem plc_cg {n : Int} {C D : Int → Int} (hn : 0 ≤ n) (h : tEq n C D) : ∀ m : Nat, plc n C m = plc n D m
  | 0 => rfl
  | m + 1 => by
    have e := plc_cg hn h m
    have hi := plc_in (C := D) hn m
    show (if plc n C m < n then plc n C m + lon n C (plc n C m) else plc n C m) = (if plc n D m < n then plc n D m + lon n D (plc n D m) else plc n D m)
    rw [e]
    by_cases q : plc n D m < n
    · rw [if_pos q, if_pos q, lon_cg h hi.1 q]
    · rw [if_neg q, if_neg q]
theorem pbg_cg {n k : Int} {C D : Int → Int} (hn : 0 ≤ n) (h : tEq n C D) : pbg n C k = pbg n D k := by
  unfold pbg
  rw [plc_cg hn h]
/-- the bits of the places at which pieces begin -/
theorem begB {n j : Int} {C : Int → Int} (n0 : 0 ≤ n) (n9 : n ≤ 30) (j0 : 0 ≤ j) (jn : j < n) : inB (beg n C) j = true ↔ ∃ m : Nat, plc n C m = j := by
  have hs : ∀ (i : Int) (z : Int × Int), 0 ≤ i → i < n → (∃ h : Nat, z.1 = plc n C h ∧ i ≤ z.1 ∧ (∀ a : Nat, a < h → plc n C a < i) ∧ (inB z.2 j = true ↔ ∃ m : Nat, m < h ∧ plc n C m = j)) → (∃ h : Nat, (bgs n C i z).1 = plc n C h ∧ i + 1 ≤ (bgs n C i z).1 ∧ (∀ a : Nat, a < h → plc n C a < i + 1) ∧ (inB (bgs n C i z).2 j = true ↔ ∃ m : Nat, m < h ∧ plc n C m = j)) := by
    rintro i ⟨e, v⟩ h1 h2 ⟨h, e1, e2, e3, e4⟩
    have e1 : e = plc n C h := e1
    have e2 : i ≤ e := e2
    by_cases q : i = e
    · rw [bgs_t q]
      have hl := lon_in (n := n) (C := C) (p := e) (by omega)
      refine ⟨h + 1, by rw [plc_s (by omega), ← e1]; show e + lon n C i = e + lon n C e; rw [q], by show i + 1 ≤ e + lon n C i; rw [q]; omega, fun a ha => ?_, ?_⟩
      · rcases (by omega : a < h ∨ a = h) with c | c
        · have := e3 a c
          omega
        · rw [c, ← e1]
          omega
      · show inB (bOr v (bShl 1 i)) j = true ↔ _
        rw [inB_or j0 (by omega), inB_sh h1 (by omega) j0 (by omega), Bool.or_eq_true, decide_eq_true_eq]
        constructor
        · rintro (c | c)
          · obtain ⟨m, m1, m2⟩ := e4.mp c
            exact ⟨m, by omega, m2⟩
          · exact ⟨h, by omega, by rw [← e1]; omega⟩
        · rintro ⟨m, m1, m2⟩
          rcases (by omega : m < h ∨ m = h) with c | c
          · exact Or.inl (e4.mpr ⟨m, c, m2⟩)
          · right
            rw [c, ← e1] at m2
            omega
    · rw [bgs_f q]
      exact ⟨h, e1, by show i + 1 ≤ e; omega, fun a ha => by have := e3 a ha; omega, e4⟩
  have hz := forI_ind (f := bgs n C) (P := fun i (z : Int × Int) => ∃ h : Nat, z.1 = plc n C h ∧ i ≤ z.1 ∧ (∀ a : Nat, a < h → plc n C a < i) ∧ (inB z.2 j = true ↔ ∃ m : Nat, m < h ∧ plc n C m = j)) (i := 0) (n := n) n0 (v := ((0 : Int), (0 : Int))) ⟨0, rfl, Int.le_refl _, fun a ha => absurd ha (Nat.not_lt_zero a), ⟨(fun h => by { have h : inB 0 j = true := h; rw [inB0] at h; cases h }), fun ⟨m, m1, _⟩ => absurd m1 (Nat.not_lt_zero m)⟩⟩ hs
  obtain ⟨h, e1, e2, e3, e4⟩ := hz
  have e4 : inB (beg n C) j = true ↔ ∃ m : Nat, m < h ∧ plc n C m = j := e4
  rw [e4]
  constructor
  · rintro ⟨m, _, m2⟩
    exact ⟨m, m2⟩
  · rintro ⟨m, m2⟩
    refine ⟨m, ?_, m2⟩
    rcases Nat.lt_or_ge m h with c | c
    · exact c
    · have := plc_m (n := n) (C := C) h (m - h)
      rw [show h + (m - h) = m by omega] at this
      omega
/-- the next beginning stands there -/
theorem begT {n i h : Int} {C : Int → Int} (n0 : 0 ≤ n) (n9 : n ≤ 30) (i0 : 0 ≤ i) (iN : i < n) (h0 : 0 ≤ h) (hb : ∀ a : Nat, a < h.toNat → plc n C a < i) (hi : i ≤ plc n C h.toNat) (c : inB (beg n C) i = true) : plc n C h.toNat = i ∧ (∀ a : Nat, a < (h + 1).toNat → plc n C a < i + 1) ∧ i + 1 ≤ plc n C (h + 1).toNat := by
  obtain ⟨m, hm⟩ := (begB n0 n9 i0 iN).mp c
  have e : plc n C h.toNat = i := by
    rcases Nat.lt_or_ge m h.toNat with q | q
    · have := hb m q
      omega
    · rcases (by omega : m = h.toNat ∨ h.toNat < m) with q2 | q2
      · rw [← q2]; exact hm
      · have := plc_m (n := n) (C := C) h.toNat (m - h.toNat)
        rw [show h.toNat + (m - h.toNat) = m by omega] at this
        omega
  refine ⟨e, fun a ha => ?_, ?_⟩
  · rcases (by omega : a < h.toNat ∨ a = h.toNat) with q | q
    · have := hb a q
      omega
    · rw [q, e]
      omega
  · have := plc_lt (n := n) (C := C) (a := h.toNat) (b := (h + 1).toNat) (by omega) (by omega)
    omega
theorem begF {n i h : Int} {C : Int → Int} (n0 : 0 ≤ n) (n9 : n ≤ 30) (i0 : 0 ≤ i) (iN : i < n) (hb : ∀ a : Nat, a < h.toNat → plc n C a < i) (hi : i ≤ plc n C h.toNat) (c : inB (beg n C) i = false) : (∀ a : Nat, a < h.toNat → plc n C a < i + 1) ∧ i + 1 ≤ plc n C h.toNat := by
  refine ⟨fun a ha => by have := hb a ha; omega, ?_⟩
  rcases (by omega : plc n C h.toNat = i ∨ i + 1 ≤ plc n C h.toNat) with q | q
  · have := (begB n0 n9 i0 iN).mpr ⟨_, q⟩
    rw [c] at this
    cases this
  · exact q
theorem pbg_no {n h k1 : Int} {C : Int → Int} (h0 : 0 ≤ h) (hk : k1 < 0 ∨ h ≤ k1) (hi : n ≤ plc n C h.toNat) : ¬ (0 ≤ k1 ∧ 0 ≤ pbg n C k1) := by
  rintro ⟨c1, c2⟩
  have := plc_m (n := n) (C := C) h.toNat (k1.toNat - h.toNat)
  rw [show h.toNat + (k1.toNat - h.toNat) = k1.toNat by omega] at this
  rw [pbg_f rfl (by omega)] at c2
  omega
/-- who stays when a text is mended -/
def mnd (n : Int) (C : Int → Int) (j : Int) : Bool := so (C j) (cond (decide (findI (fun i => so (C i) 11) 0 n < j)) 12 11)
theorem mnd_a {n i : Int} {C : Int → Int} (h : i ≤ findI (fun i => so (C i) 11) 0 n) : mnd n C i = so (C i) 11 := by
  unfold mnd
  rw [decide_eq_false (by omega)]
  rfl
theorem mnd_b {n i : Int} {C : Int → Int} (h : findI (fun i => so (C i) 11) 0 n < i) : mnd n C i = so (C i) 12 := by
  unfold mnd
  rw [decide_eq_true h]
  rfl
theorem mnd_t {n i : Int} {C : Int → Int} (i0 : 0 ≤ i) (h : i ≤ findI (fun i => so (C i) 11) 0 n) (c : so (C i) 11 = true) : findI (fun i => so (C i) 11) 0 n < i + 1 := by
  rcases (by omega : findI (fun i => so (C i) 11) 0 n < i + 1 ∨ i < findI (fun i => so (C i) 11) 0 n) with q | q
  · exact q
  · have this : so (C i) 11 = false := findI_no (P := fun i => so (C i) 11) i0 q
    rw [c] at this
    cases this
theorem mnd_f {n i : Int} {C : Int → Int} (i0 : 0 ≤ i) (iN : i < n) (h : i ≤ findI (fun i => so (C i) 11) 0 n) (c : so (C i) 11 = false) : i + 1 ≤ findI (fun i => so (C i) 11) 0 n := by
  rcases (by omega : findI (fun i => so (C i) 11) 0 n = i ∨ i + 1 ≤ findI (fun i => so (C i) 11) 0 n) with q | q
  · have := findI_yes (P := fun i => so (C i) 11) (i := 0) (n := n) (by omega) (by omega)
    rw [q] at this
    have this : so (C i) 11 = true := this
    rw [c] at this
    cases this
  · exact q
theorem mnd_cg {n : Int} {C D : Int → Int} (hn : 0 ≤ n) (h : tEq n C D) : ∀ j, 0 ≤ j → j < n → mnd n C j = mnd n D j := fun j j0 jn => by
  unfold mnd
  rw [h j j0 jn, findI_cg (Q := fun i => so (D i) 11) hn (fun i i0 iN => by show so (C i) 11 = _; rw [h i i0 iN])]
/-- some place is in the set -/
def inX (v : Int) : Prop := ∃ j, 0 ≤ j ∧ j < 32 ∧ inB v j = true
theorem inX_0 {v : Int} (h : inX v) : v ≠ 0 := fun e => by
  obtain ⟨j, _, _, hj⟩ := h
  rw [e, inB0] at hj
  cases hj
theorem inX_l {v x : Int} (h : inX v) : inX (bOr v x) := by
  obtain ⟨j, j0, j9, hj⟩ := h
  exact ⟨j, j0, j9, by rw [inB_or j0 j9, hj]; rfl⟩
theorem inX_r {v i : Int} (i0 : 0 ≤ i) (i9 : i < 32) : inX (bOr v (bShl 1 i)) := ⟨i, i0, i9, by rw [inB_or i0 i9, inB_sh i0 i9 i0 i9, decide_eq_true rfl, Bool.or_true]⟩
/-- what an act comes to: its answer, the text, how many it has then, its signs, acts and refusals more -/
abbrev oT : Type := Int × Int × Int × (Int → Int) × Int × Int
def oEq (x y : oT) : Prop := x.1 = y.1 ∧ x.2.1 = y.2.1 ∧ x.2.2.1 = y.2.2.1 ∧ tEq x.2.2.1 x.2.2.2.1 y.2.2.2.1 ∧ x.2.2.2.2.1 = y.2.2.2.2.1 ∧ x.2.2.2.2.2 = y.2.2.2.2.2
def acIns (n : Int → Int) (C : Int → Int → Int) (t p s : Int) : oT := if 30 ≤ n t then (-9, t, n t, C t, 0, 1) else (n t + 1, t, n t + 1, tins (n t) p s (C t), 1, 0)
def acPut (n : Int → Int) (C : Int → Int → Int) (t p s : Int) : oT := (C t p, t, n t, uF (C t) p s, 1, 0)
def acDrop (n : Int → Int) (C : Int → Int → Int) (t p : Int) : oT := (C t p, t, n t - 1, fun j => if j < p then C t j else C t (j + 1), 1, 0)
def acClear (n : Int → Int) (C : Int → Int → Int) (t : Int) : oT := (n t, t, 0, C t, 1, 0)
def acCopy (n : Int → Int) (C : Int → Int → Int) (t u : Int) : oT := (n t, u, n t, C t, 1, 0)
def acJoin (n : Int → Int) (C : Int → Int → Int) (t u : Int) : oT := if 30 < n t + n u then (-9, t, n t, C t, 0, 1) else (n t + n u, t, n t + n u, tapp (n t) (n u) (C u) (C t), 1, 0)
def acTurn (n : Int → Int) (C : Int → Int → Int) (t : Int) : oT := (if findI (fun j => decide (C t j ≠ C t (n t - 1 - j))) 0 (n t) < n t then 1 else 0, t, n t, fun j => C t (n t - 1 - j), 1, 0)
def acFill (n : Int → Int) (t f m : Int) : oT := (n t, t, m, fun j => f + j, 1, 0)
def acCut (C : Int → Int → Int) (t f g : Int) : oT := (g - f, t, g - f, fun j => C t (f + j), 1, 0)
def acSift (n : Int → Int) (C : Int → Int → Int) (t : Int) (P : Int → Bool) : oT := (n t - (sft P (n t) (C t)).1, t, (sft P (n t) (C t)).1, (sft P (n t) (C t)).2, 1, 0)
def acTake (n : Int → Int) (C : Int → Int → Int) (t k u : Int) : oT := (lon (n t) (C t) (pbg (n t) (C t) k), u, lon (n t) (C t) (pbg (n t) (C t) k), fun j => C t (pbg (n t) (C t) k + j), 1, 0)
/-- the class after an act -/
def aDo (M : kM) (x : oT) (z : Int) (M' : kM) : Prop := z = x.1 ∧ (∀ u : Int, 0 ≤ u → u < 3 → (M'.1 u = if u = x.2.1 then x.2.2.1 else M.1 u) ∧ tEq (M'.1 u) (M'.2.1 u) (if u = x.2.1 then x.2.2.2.1 else M.2.1 u)) ∧ M'.2.2.1 = M.2.2.1 + x.2.2.2.2.1 ∧ M'.2.2.2.1 = M.2.2.2.1 + x.2.2.2.2.2 ∧ M'.2.2.2.2 = M.2.2.2.2
theorem aDo.mk {M : kM} {x : oT} {z t n' n9 : Int} {D D9 : Int → Int} (e : x = (z, t, n', D, 1, 0)) (hn : n9 = n') (hD : tEq n' D9 D) : aDo M x z (fun j => if j = t then n9 else M.1 j, fun j => if j = t then D9 else M.2.1 j, M.2.2.1 + 1, M.2.2.2.1, M.2.2.2.2) := by
  subst e
  subst hn
  refine ⟨rfl, fun u _ _ => ⟨rfl, ?_⟩, rfl, (Int.add_zero _).symm, rfl⟩
  show tEq (if u = t then n9 else M.1 u) (if u = t then D9 else M.2.1 u) (if u = t then D else M.2.1 u)
  by_cases h : u = t
  · rw [if_pos h, if_pos h, if_pos h]; exact hD
  · rw [if_neg h, if_neg h, if_neg h]; exact tEq.rf
theorem aDo.no {M : kM} {x : oT} {t : Int} (e : x = (-9, t, M.1 t, M.2.1 t, 0, 1)) : aDo M x (-9) (M.1, M.2.1, M.2.2.1, M.2.2.2.1 + 1, M.2.2.2.2) := by
  subst e
  refine ⟨rfl, fun u _ _ => ⟨?_, ?_⟩, (Int.add_zero _).symm, rfl, rfl⟩
  · show M.1 u = if u = t then M.1 t else M.1 u
    by_cases h : u = t
    · rw [if_pos h, h]
    · rw [if_neg h]
  · show tEq (M.1 u) (M.2.1 u) (if u = t then M.2.1 t else M.2.1 u)
    by_cases h : u = t
    · rw [if_pos h, h]; exact tEq.rf
    · rw [if_neg h]; exact tEq.rf
/-- only the text t is other -/
def kK (M M1 : kM) (t : Int) : Prop := (∀ u, u ≠ t → M1.1 u = M.1 u ∧ M1.2.1 u = M.2.1 u) ∧ M1.2.2 = M.2.2
theorem kK.rf {M : kM} {t : Int} : kK M M t := ⟨fun _ _ => ⟨rfl, rfl⟩, rfl⟩
theorem kK.put {M M1 : kM} {t n' : Int} {C' : Int → Int} (h : kK M M1 t) : kK M (fun j => if j = t then n' else M1.1 j, fun j => if j = t then C' else M1.2.1 j, M1.2.2) t := ⟨fun u hu => ⟨(if_neg hu).trans (h.1 u hu).1, (if_neg hu).trans (h.1 u hu).2⟩, h.2⟩
theorem aDo.mk2 {M M1 : kM} {x : oT} {z t n' : Int} {D : Int → Int} (e : x = (z, t, n', D, 1, 0)) (hk : kK M M1 t) (hn : M1.1 t = n') (hD : tEq n' (M1.2.1 t) D) : aDo M x z (M1.1, M1.2.1, M1.2.2.1 + 1, M1.2.2.2.1, M1.2.2.2.2) := by
  subst e
  obtain ⟨h1, h2⟩ := hk
  refine ⟨rfl, fun u _ _ => ⟨?_, ?_⟩, by rw [h2], by rw [h2]; exact (Int.add_zero _).symm, by rw [h2]⟩
  · show M1.1 u = if u = t then n' else M.1 u
    by_cases h : u = t
    · rw [if_pos h, h]; exact hn
    · rw [if_neg h]; exact (h1 u h).1
  · show tEq (M1.1 u) (M1.2.1 u) (if u = t then D else M.2.1 u)
    by_cases h : u = t
    · rw [if_pos h, h, hn]; exact hD
    · rw [if_neg h, (h1 u h).2]; exact tEq.rf
theorem aDo.sift {M : kM} {t : Int} {P Q : Int → Bool} (hq : (sft P (M.1 t) (M.2.1 t)).1 = (sft Q (M.1 t) (M.2.1 t)).1 ∧ tEq (sft P (M.1 t) (M.2.1 t)).1 (sft P (M.1 t) (M.2.1 t)).2 (sft Q (M.1 t) (M.2.1 t)).2) : aDo M (acSift M.1 M.2.1 t Q) (M.1 t - (sft P (M.1 t) (M.2.1 t)).1) (fun j => if j = t then (sft P (M.1 t) (M.2.1 t)).1 else M.1 j, fun j => if j = t then (sft P (M.1 t) (M.2.1 t)).2 else M.2.1 j, M.2.2.1 + 1, M.2.2.2.1, M.2.2.2.2) :=
  aDo.mk (n' := (sft Q (M.1 t) (M.2.1 t)).1) (D := (sft Q (M.1 t) (M.2.1 t)).2) (by rw [hq.1]; rfl) hq.1 (by rw [← hq.1]; exact hq.2)
def kAct (G : gK) (w : wd) (K : kA) (M : kM) (x : oT) (z : Int) (w' : wd) : Prop := ∃ M' : kM, kS G w' K M' ∧ aDo M x z M' ∧ fr (kP K) w w'
end
section
/-! how many bits: Integer.bitCount as the JDK counts is how many places are in a set -/
theorem nx_and (a b : Nat) : nI a &&& nI b = nI (a &&& b) := by
  apply Int32.toBitVec_inj.1
  show BitVec.ofNat 32 a &&& BitVec.ofNat 32 b = BitVec.ofNat 32 (a &&& b)
  apply BitVec.eq_of_getLsbD_eq
  intro i hi
  simp [hi]
theorem nx_cnt : ∀ j : Fin 32, (UInt32.ofNat j.val &&& Int32.toUInt32 31).toNat % 32 = j.val := by decide +kernel
theorem nx_ushB {k j : Nat} (hk : k < 2147483648) (hj : j < 32) : ((nI k).toUInt32 >>> ((nI j).toUInt32 &&& Int32.toUInt32 31)).toInt32 = nI (k >>> j) := by
  have hs : k >>> j ≤ k := by
    rw [Nat.shiftRight_eq_div_pow]
    exact Nat.div_le_self _ _
  have e2 : UInt32.ofNat k >>> (UInt32.ofNat j &&& Int32.toUInt32 31) = UInt32.ofNat (k >>> j) := by
    apply UInt32.toNat_inj.1
    have h1 : (UInt32.ofNat k).toNat = k := Nat.mod_eq_of_lt (show k < 2 ^ 32 by omega)
    have h2 : (UInt32.ofNat (k >>> j)).toNat = k >>> j := Nat.mod_eq_of_lt (show k >>> j < 2 ^ 32 by omega)
    rw [UInt32.toNat_shiftRight, nx_cnt ⟨j, hj⟩, h1, h2]
  show (UInt32.ofNat k >>> (UInt32.ofNat j &&& Int32.toUInt32 31)).toInt32 = _
  rw [e2]
  rfl
theorem bAnd_n {a b : Nat} (ha : a < 2147483648) : bAnd (a : Int) (b : Int) = ((a &&& b : Nat) : Int) := by
  have h : a &&& b ≤ a := Nat.and_le_left
  unfold bAnd
  rw [zI_nat, zI_nat, nx_and, nI_toInt (by omega)]
theorem bUshr_n {a j : Nat} (ha : a < 2147483648) (hj : j < 32) : bUshr (a : Int) (j : Int) = ((a / 2 ^ j : Nat) : Int) := by
  have h : a / 2 ^ j ≤ a := Nat.div_le_self _ _
  unfold bUshr
  rw [zI_nat, zI_nat, nx_ushB ha hj, Nat.shiftRight_eq_div_pow, nI_toInt (by omega)]
def s1B (z : Nat) : Nat := z - ((z / 2) &&& 85)
def s2B (a : Nat) : Nat := (a &&& 51) + ((a / 4) &&& 51)
def pcB (z : Nat) : Nat := (s2B (s1B z) + s2B (s1B z) / 16) % 16
set_option maxRecDepth 100000 in
theorem pcB_d : ∀ z : Fin 256, ((z.val / 2) &&& 85) ≤ z.val ∧ s1B z.val < 256 ∧ s2B (s1B z.val) ≤ 68 ∧ s2B (s1B z.val) % 16 ≤ 4 ∧ pcB z.val ≤ 8 := by decide +kernel
theorem pcB_f {z : Nat} (h : z < 256) : ((z / 2) &&& 85) ≤ z ∧ s1B z < 256 ∧ s2B (s1B z) ≤ 68 ∧ s2B (s1B z) % 16 ≤ 4 ∧ pcB z ≤ 8 := pcB_d ⟨z, h⟩
theorem and_sp {y m z u : Nat} (hz : z < 256) (hu : u < 256) : (256 * y + z) &&& (256 * m + u) = 256 * (y &&& m) + (z &&& u) := by
  have h1 := Nat.and_div_two_pow (a := 256 * y + z) (b := 256 * m + u) (n := 8)
  have h2 := Nat.and_mod_two_pow (a := 256 * y + z) (b := 256 * m + u) (n := 8)
  rw [show (2 : Nat) ^ 8 = 256 from rfl] at h1 h2
  rw [show (256 * y + z) / 256 = y by omega, show (256 * m + u) / 256 = m by omega] at h1
  rw [show (256 * y + z) % 256 = z by omega, show (256 * m + u) % 256 = u by omega] at h2
  generalize (256 * y + z) &&& (256 * m + u) = X at h1 h2 ⊢
  generalize y &&& m = Y at h1 ⊢
  generalize z &&& u = Z at h2 ⊢
  omega
set_option maxRecDepth 100000 in
theorem m85 : ∀ b : Fin 2, ∀ w : Fin 128, (128 * b.val + w.val) &&& 85 = w.val &&& 85 := by decide +kernel
set_option maxRecDepth 100000 in
theorem m51 : ∀ b : Fin 4, ∀ w : Fin 64, (64 * b.val + w.val) &&& 51 = w.val &&& 51 := by decide +kernel
theorem sh1 {y z m : Nat} (hz : z < 256) : ((256 * y + z) / 2) &&& (256 * m + 85) = 256 * ((y / 2) &&& m) + ((z / 2) &&& 85) := by
  rw [show (256 * y + z) / 2 = 256 * (y / 2) + (128 * (y % 2) + z / 2) by omega, and_sp (by omega) (by decide)]
  rw [m85 ⟨y % 2, by omega⟩ ⟨z / 2, by omega⟩]
theorem sh2 {y z m : Nat} (hz : z < 256) : ((256 * y + z) / 4) &&& (256 * m + 51) = 256 * ((y / 4) &&& m) + ((z / 4) &&& 51) := by
  rw [show (256 * y + z) / 4 = 256 * (y / 4) + (64 * (y % 4) + z / 4) by omega, and_sp (by omega) (by decide)]
  rw [m51 ⟨y % 4, by omega⟩ ⟨z / 4, by omega⟩]
def W4 (a b c d : Nat) : Nat := 256 * (256 * (256 * d + c) + b) + a
def pcN (x : Nat) : Nat := pcB (x % 256) + pcB (x / 256 % 256) + pcB (x / 65536 % 256) + pcB (x / 16777216 % 256)
/-- the three steps, byte by byte -/
theorem st1_n {z0 z1 z2 z3 : Nat} (h0 : z0 < 256) (h1 : z1 < 256) (h2 : z2 < 256) (h3 : z3 < 256) : W4 z0 z1 z2 z3 - ((W4 z0 z1 z2 z3 / 2) &&& 1431655765) = W4 (s1B z0) (s1B z1) (s1B z2) (s1B z3) := by
  have e : (W4 z0 z1 z2 z3 / 2) &&& 1431655765 = W4 ((z0 / 2) &&& 85) ((z1 / 2) &&& 85) ((z2 / 2) &&& 85) ((z3 / 2) &&& 85) := by
    unfold W4
    rw [show (1431655765 : Nat) = 256 * (256 * (256 * 85 + 85) + 85) + 85 from rfl, sh1 h0, sh1 h1, sh1 h2]
  rw [e]
  have f0 := (pcB_f h0).1
  have f1 := (pcB_f h1).1
  have f2 := (pcB_f h2).1
  have f3 := (pcB_f h3).1
  unfold W4 s1B
  generalize (z0 / 2) &&& 85 = u0 at f0 ⊢
  generalize (z1 / 2) &&& 85 = u1 at f1 ⊢
  generalize (z2 / 2) &&& 85 = u2 at f2 ⊢
  generalize (z3 / 2) &&& 85 = u3 at f3 ⊢
  omega
theorem st2_n {z0 z1 z2 z3 : Nat} (h0 : z0 < 256) (h1 : z1 < 256) (h2 : z2 < 256) (h3 : z3 < 256) : (W4 z0 z1 z2 z3 &&& 858993459) + ((W4 z0 z1 z2 z3 / 4) &&& 858993459) = W4 (s2B z0) (s2B z1) (s2B z2) (s2B z3) := by
  have e1 : W4 z0 z1 z2 z3 &&& 858993459 = W4 (z0 &&& 51) (z1 &&& 51) (z2 &&& 51) (z3 &&& 51) := by
    unfold W4
    rw [show (858993459 : Nat) = 256 * (256 * (256 * 51 + 51) + 51) + 51 from rfl, and_sp h0 (by decide), and_sp h1 (by decide), and_sp h2 (by decide)]
  have e2 : (W4 z0 z1 z2 z3 / 4) &&& 858993459 = W4 ((z0 / 4) &&& 51) ((z1 / 4) &&& 51) ((z2 / 4) &&& 51) ((z3 / 4) &&& 51) := by
    unfold W4
    rw [show (858993459 : Nat) = 256 * (256 * (256 * 51 + 51) + 51) + 51 from rfl, sh2 h0, sh2 h1, sh2 h2]
  rw [e1, e2]
  unfold W4 s2B
  generalize z0 &&& 51 = u0
  generalize z1 &&& 51 = u1
  generalize z2 &&& 51 = u2
  generalize z3 &&& 51 = u3
  generalize (z0 / 4) &&& 51 = v0
  generalize (z1 / 4) &&& 51 = v1
  generalize (z2 / 4) &&& 51 = v2
  generalize (z3 / 4) &&& 51 = v3
  omega
theorem and15 (x : Nat) : x &&& 15 = x % 16 := Nat.and_two_pow_sub_one_eq_mod x 4
theorem st3_n {b0 b1 b2 b3 : Nat} (h0 : b0 ≤ 68) (h1 : b1 ≤ 68) (h2 : b2 ≤ 68) (h3 : b3 ≤ 68) (g1 : b1 % 16 ≤ 4) (g2 : b2 % 16 ≤ 4) (g3 : b3 % 16 ≤ 4) : (W4 b0 b1 b2 b3 + W4 b0 b1 b2 b3 / 16) &&& 252645135 = W4 ((b0 + b0 / 16) % 16) ((b1 + b1 / 16) % 16) ((b2 + b2 / 16) % 16) ((b3 + b3 / 16) % 16) := by
  have e : W4 b0 b1 b2 b3 + W4 b0 b1 b2 b3 / 16 = W4 (b0 + b0 / 16 + 16 * (b1 % 16)) (b1 + b1 / 16 + 16 * (b2 % 16)) (b2 + b2 / 16 + 16 * (b3 % 16)) (b3 + b3 / 16) := by
    unfold W4
    omega
  rw [e]
  unfold W4
  rw [show (252645135 : Nat) = 256 * (256 * (256 * 15 + 15) + 15) + 15 from rfl, and_sp (by omega) (by decide), and_sp (by omega) (by decide), and_sp (by omega) (by decide), and15, and15, and15, and15]
  omega
theorem bcn_n {x : Nat} (hx : x < 1073741824) : bcn (x : Int) = (pcN x : Int) := by
  obtain ⟨z0, z1, z2, z3, h0, h1, h2, h3, e⟩ : ∃ z0 z1 z2 z3, z0 < 256 ∧ z1 < 256 ∧ z2 < 256 ∧ z3 < 64 ∧ x = W4 z0 z1 z2 z3 := ⟨x % 256, x / 256 % 256, x / 65536 % 256, x / 16777216, by omega, by omega, by omega, by omega, by unfold W4; omega⟩
  have hp : pcN x = pcB z0 + pcB z1 + pcB z2 + pcB z3 := by
    unfold pcN
    rw [show x % 256 = z0 by rw [e]; unfold W4; omega, show x / 256 % 256 = z1 by rw [e]; unfold W4; omega, show x / 65536 % 256 = z2 by rw [e]; unfold W4; omega, show x / 16777216 % 256 = z3 by rw [e]; unfold W4; omega]
  obtain ⟨-, a0, b0, c0, d0⟩ := pcB_f h0
  obtain ⟨-, a1, b1, c1, d1⟩ := pcB_f h1
  obtain ⟨-, a2, b2, c2, d2⟩ := pcB_f h2
  obtain ⟨l3, a3, b3, c3, d3⟩ := pcB_f (show z3 < 256 by omega)
  have a3' : s1B z3 < 64 := by unfold s1B; omega
  have t1 := st1_n h0 h1 h2 (show z3 < 256 by omega)
  have t2 := st2_n a0 a1 a2 a3
  have t3 := st3_n b0 b1 b2 b3 c1 c2 c3
  have hle : (x / 2) &&& 1431655765 ≤ x := Nat.le_trans Nat.and_le_left (Nat.div_le_self _ _)
  rw [← e] at t1
  have i1 : (x : Int) - bAnd (bUshr (x : Int) 1) 1431655765 = ((W4 (s1B z0) (s1B z1) (s1B z2) (s1B z3) : Nat) : Int) := by
    have f1 := bUshr_n (a := x) (j := 1) (by omega) (by omega)
    have f2 := bAnd_n (a := x / 2 ^ 1) (b := 1431655765) (by have := Nat.div_le_self x (2 ^ 1); omega)
    rw [show ((1 : Nat) : Int) = 1 from rfl] at f1
    rw [show ((1431655765 : Nat) : Int) = 1431655765 from rfl] at f2
    rw [f1, f2, ← t1, show (2 : Nat) ^ 1 = 2 from rfl]
    omega
  have w1 : W4 (s1B z0) (s1B z1) (s1B z2) (s1B z3) < 2147483648 := by unfold W4; omega
  generalize W4 (s1B z0) (s1B z1) (s1B z2) (s1B z3) = A at t1 t2 i1 w1
  have i2 : bAnd (A : Int) 858993459 + bAnd (bUshr (A : Int) 2) 858993459 = ((W4 (s2B (s1B z0)) (s2B (s1B z1)) (s2B (s1B z2)) (s2B (s1B z3)) : Nat) : Int) := by
    have f1 := bUshr_n (a := A) (j := 2) (by omega) (by omega)
    have f2 := bAnd_n (a := A / 2 ^ 2) (b := 858993459) (by have := Nat.div_le_self A (2 ^ 2); omega)
    have f3 := bAnd_n (a := A) (b := 858993459) w1
    rw [show ((2 : Nat) : Int) = 2 from rfl] at f1
    rw [show ((858993459 : Nat) : Int) = 858993459 from rfl] at f2 f3
    rw [f1, f2, f3, ← t2, show (2 : Nat) ^ 2 = 4 from rfl]
    omega
  have w2 : W4 (s2B (s1B z0)) (s2B (s1B z1)) (s2B (s1B z2)) (s2B (s1B z3)) ≤ 1145324612 := by unfold W4; omega
  generalize W4 (s2B (s1B z0)) (s2B (s1B z1)) (s2B (s1B z2)) (s2B (s1B z3)) = B at t2 t3 i2 w2
  have i3 : bAnd ((B : Int) + bUshr (B : Int) 4) 252645135 = ((W4 (pcB z0) (pcB z1) (pcB z2) (pcB z3) : Nat) : Int) := by
    have f1 := bUshr_n (a := B) (j := 4) (by omega) (by omega)
    have f2 := bAnd_n (a := B + B / 2 ^ 4) (b := 252645135) (by rw [show (2 : Nat) ^ 4 = 16 from rfl]; omega)
    rw [show ((4 : Nat) : Int) = 4 from rfl] at f1
    rw [show ((252645135 : Nat) : Int) = 252645135 from rfl] at f2
    rw [f1, show (B : Int) + ((B / 2 ^ 4 : Nat) : Int) = ((B + B / 2 ^ 4 : Nat) : Int) by omega, f2, show (2 : Nat) ^ 4 = 16 from rfl, t3]
    rfl
  have w3 : W4 (pcB z0) (pcB z1) (pcB z2) (pcB z3) ≤ 134744072 := by unfold W4; omega
  have w4 : ∃ C, C = W4 (pcB z0) (pcB z1) (pcB z2) (pcB z3) := ⟨_, rfl⟩
  obtain ⟨C, hC⟩ := w4
  rw [← hC] at i3 w3
  have f4 := bUshr_n (a := C) (j := 8) (by omega) (by omega)
  have f5 := bUshr_n (a := C + C / 2 ^ 8) (j := 16) (by rw [show (2 : Nat) ^ 8 = 256 from rfl]; omega) (by omega)
  have f6 := bAnd_n (a := C + C / 2 ^ 8 + (C + C / 2 ^ 8) / 2 ^ 16) (b := 63) (by rw [show (2 : Nat) ^ 8 = 256 from rfl, show (2 : Nat) ^ 16 = 65536 from rfl]; omega)
  rw [show ((8 : Nat) : Int) = 8 from rfl] at f4
  rw [show ((16 : Nat) : Int) = 16 from rfl] at f5
  rw [show ((63 : Nat) : Int) = 63 from rfl] at f6
  have a63 : ∀ y : Nat, y &&& 63 = y % 64 := fun y => Nat.and_two_pow_sub_one_eq_mod y 6
  show bAnd (bAnd ((bAnd ((x : Int) - bAnd (bUshr (x : Int) 1) 1431655765) 858993459 + bAnd (bUshr ((x : Int) - bAnd (bUshr (x : Int) 1) 1431655765) 2) 858993459) + bUshr (bAnd ((x : Int) - bAnd (bUshr (x : Int) 1) 1431655765) 858993459 + bAnd (bUshr ((x : Int) - bAnd (bUshr (x : Int) 1) 1431655765) 2) 858993459) 4) 252645135 + bUshr (bAnd ((bAnd ((x : Int) - bAnd (bUshr (x : Int) 1) 1431655765) 858993459 + bAnd (bUshr ((x : Int) - bAnd (bUshr (x : Int) 1) 1431655765) 2) 858993459) + bUshr (bAnd ((x : Int) - bAnd (bUshr (x : Int) 1) 1431655765) 858993459 + bAnd (bUshr ((x : Int) - bAnd (bUshr (x : Int) 1) 1431655765) 2) 858993459) 4) 252645135) 8 + bUshr (bAnd ((bAnd ((x : Int) - bAnd (bUshr (x : Int) 1) 1431655765) 858993459 + bAnd (bUshr ((x : Int) - bAnd (bUshr (x : Int) 1) 1431655765) 2) 858993459) + bUshr (bAnd ((x : Int) - bAnd (bUshr (x : Int) 1) 1431655765) 858993459 + bAnd (bUshr ((x : Int) - bAnd (bUshr (x : Int) 1) 1431655765) 2) 858993459) 4) 252645135 + bUshr (bAnd ((bAnd ((x : Int) - bAnd (bUshr (x : Int) 1) 1431655765) 858993459 + bAnd (bUshr ((x : Int) - bAnd (bUshr (x : Int) 1) 1431655765) 2) 858993459) + bUshr (bAnd ((x : Int) - bAnd (bUshr (x : Int) 1) 1431655765) 858993459 + bAnd (bUshr ((x : Int) - bAnd (bUshr (x : Int) 1) 1431655765) 2) 858993459) 4) 252645135) 8) 16) 63 = _
  rw [i1, i2, i3, f4, show (C : Int) + ((C / 2 ^ 8 : Nat) : Int) = ((C + C / 2 ^ 8 : Nat) : Int) by omega, f5, show ((C + C / 2 ^ 8 : Nat) : Int) + (((C + C / 2 ^ 8) / 2 ^ 16 : Nat) : Int) = ((C + C / 2 ^ 8 + (C + C / 2 ^ 8) / 2 ^ 16 : Nat) : Int) by omega, f6, a63, hp, show (2 : Nat) ^ 8 = 256 from rfl, show (2 : Nat) ^ 16 = 65536 from rfl]
  unfold W4 at hC
  have k1 : C / 256 = pcB z1 + 256 * pcB z2 + 65536 * pcB z3 := by omega
  have k2 : (C + C / 256) / 65536 = pcB z2 + pcB z3 + 256 * pcB z3 := by omega
  have k3 : (C + C / 256 + (C + C / 256) / 65536) % 64 = pcB z0 + pcB z1 + pcB z2 + pcB z3 := by
    rw [k2, k1, hC]
    omega
  rw [k3]
set_option maxRecDepth 100000 in
theorem pcB_s : ∀ k : Fin 8, ∀ z : Fin 256, z.val < 2 ^ k.val → pcB (z.val + 2 ^ k.val) = pcB z.val + 1 := by decide +kernel
theorem pcB_t {k z : Nat} (hk : k < 8) (hz : z < 2 ^ k) : pcB (z + 2 ^ k) = pcB z + 1 := pcB_s ⟨k, hk⟩ ⟨z, by
  have : 2 ^ k ≤ 2 ^ 7 := Nat.pow_le_pow_right (by decide) (by omega)
  omega⟩ hz
theorem pcN_s {i x : Nat} (hi : i < 30) (hx : x < 2 ^ i) : pcN (x + 2 ^ i) = pcN x + 1 := by
  have h0 : ∀ k, k < 8 → x < 2 ^ k → pcN (x + 2 ^ k) = pcN x + 1 := fun k hk h => by
    have hp : 2 ^ k ≤ 2 ^ 7 := Nat.pow_le_pow_right (by decide) (by omega)
    have := pcB_t hk h
    unfold pcN
    rw [show (x + 2 ^ k) % 256 = x + 2 ^ k by omega, show x % 256 = x by omega, show (x + 2 ^ k) / 256 % 256 = x / 256 % 256 by omega, show (x + 2 ^ k) / 65536 % 256 = x / 65536 % 256 by omega, show (x + 2 ^ k) / 16777216 % 256 = x / 16777216 % 256 by omega]
    omega
  have h1 : ∀ k, k < 8 → x < 256 * 2 ^ k → pcN (x + 256 * 2 ^ k) = pcN x + 1 := fun k hk h => by
    have hp : 2 ^ k ≤ 2 ^ 7 := Nat.pow_le_pow_right (by decide) (by omega)
    have := pcB_t (z := x / 256) hk (by omega)
    unfold pcN
    rw [show (x + 256 * 2 ^ k) % 256 = x % 256 by omega, show (x + 256 * 2 ^ k) / 256 % 256 = x / 256 + 2 ^ k by omega, show x / 256 % 256 = x / 256 by omega, show (x + 256 * 2 ^ k) / 65536 % 256 = x / 65536 % 256 by omega, show (x + 256 * 2 ^ k) / 16777216 % 256 = x / 16777216 % 256 by omega]
    omega
  have h2 : ∀ k, k < 8 → x < 65536 * 2 ^ k → pcN (x + 65536 * 2 ^ k) = pcN x + 1 := fun k hk h => by
    have hp : 2 ^ k ≤ 2 ^ 7 := Nat.pow_le_pow_right (by decide) (by omega)
    have := pcB_t (z := x / 65536) hk (by omega)
    unfold pcN
    rw [show (x + 65536 * 2 ^ k) % 256 = x % 256 by omega, show (x + 65536 * 2 ^ k) / 256 % 256 = x / 256 % 256 by omega, show (x + 65536 * 2 ^ k) / 65536 % 256 = x / 65536 + 2 ^ k by omega, show x / 65536 % 256 = x / 65536 by omega, show (x + 65536 * 2 ^ k) / 16777216 % 256 = x / 16777216 % 256 by omega]
    omega
  have h3 : ∀ k, k < 8 → x < 16777216 * 2 ^ k → pcN (x + 16777216 * 2 ^ k) = pcN x + 1 := fun k hk h => by
    have hp : 2 ^ k ≤ 2 ^ 7 := Nat.pow_le_pow_right (by decide) (by omega)
    have := pcB_t (z := x / 16777216) hk (by omega)
    unfold pcN
    rw [show (x + 16777216 * 2 ^ k) % 256 = x % 256 by omega, show (x + 16777216 * 2 ^ k) / 256 % 256 = x / 256 % 256 by omega, show (x + 16777216 * 2 ^ k) / 65536 % 256 = x / 65536 % 256 by omega, show (x + 16777216 * 2 ^ k) / 16777216 % 256 = x / 16777216 + 2 ^ k by omega, show x / 16777216 % 256 = x / 16777216 by omega]
    omega
  rcases (by omega : i < 8 ∨ (8 ≤ i ∧ i < 16) ∨ (16 ≤ i ∧ i < 24) ∨ (24 ≤ i ∧ i < 32)) with q | q | q | q
  · exact h0 i q hx
  · have e : 2 ^ i = 256 * 2 ^ (i - 8) := by
      rw [show (256 : Nat) = 2 ^ 8 from rfl, ← Nat.pow_add]
      congr 1
      omega
    rw [e] at hx ⊢
    exact h1 (i - 8) (by omega) hx
  · have e : 2 ^ i = 65536 * 2 ^ (i - 16) := by
      rw [show (65536 : Nat) = 2 ^ 16 from rfl, ← Nat.pow_add]
      congr 1
      omega
    rw [e] at hx ⊢
    exact h2 (i - 16) (by omega) hx
  · have e : 2 ^ i = 16777216 * 2 ^ (i - 24) := by
      rw [show (16777216 : Nat) = 2 ^ 24 from rfl, ← Nat.pow_add]
      congr 1
      omega
    rw [e] at hx ⊢
    exact h3 (i - 24) (by omega) hx
set_option maxRecDepth 100000 in
theorem bShl_d : ∀ i : Fin 31, bShl 1 ((i.val : Nat) : Int) = ((2 ^ i.val : Nat) : Int) := by decide +kernel
theorem bOr_s {i v : Nat} (hi : i < 31) (hv : v < 2 ^ i) : bOr (v : Int) (bShl 1 (i : Int)) = ((v + 2 ^ i : Nat) : Int) := by
  have hp : 2 ^ i ≤ 2 ^ 30 := Nat.pow_le_pow_right (by decide) (by omega)
  have e := Nat.two_pow_add_eq_or_of_lt hv 1
  rw [Nat.mul_one] at e
  have h : nI v ||| nI (2 ^ i) = nI (v + 2 ^ i) := by
    apply Int32.toBitVec_inj.1
    rw [Int32.toBitVec_or]
    show BitVec.ofNat 32 v ||| BitVec.ofNat 32 (2 ^ i) = BitVec.ofNat 32 (v + 2 ^ i)
    rw [Nat.add_comm v, e, Nat.or_comm]
    apply BitVec.eq_of_getLsbD_eq
    intro j hj
    simp [hj]
  rw [bShl_d ⟨i, hi⟩]
  unfold bOr
  rw [zI_nat, zI_nat, h, nI_toInt (by omega)]
theorem pcN_0 : pcN 0 = 0 := by decide +kernel
/-- counting -/
def cst (P : Int → Bool) (c v : Int) : Int := if P c = true then v + 1 else v
theorem cst_t {P : Int → Bool} {c v : Int} (h : P c = true) : cst P c v = v + 1 := if_pos h
theorem cst_f {P : Int → Bool} {c v : Int} (h : P c = false) : cst P c v = v := if_neg (by rw [h]; decide)
/-- bits of a set of places, counted -/
theorem msk_pc {P : Int → Bool} {n : Int} (n0 : 0 ≤ n) (n9 : n ≤ 30) : ∃ X : Nat, msk P n = (X : Int) ∧ X < 2 ^ n.toNat ∧ forI (cst P) 0 n 0 = (pcN X : Int) := by
  have h := forI_rel (f := mstep P) (g := cst P) (R := fun i v c => ∃ X : Nat, v = (X : Int) ∧ X < 2 ^ i.toNat ∧ c = (pcN X : Int)) (i := 0) (n := n) n0 (v := (0 : Int)) (w := (0 : Int)) ⟨0, rfl, by decide, by rw [pcN_0]; rfl⟩ (fun i v c h1 h2 ⟨X, e1, e2, e3⟩ => by
    have es : (i + 1).toNat = i.toNat + 1 := by omega
    have ei : ((i.toNat : Nat) : Int) = i := Int.toNat_of_nonneg h1
    have hpow : 2 ^ (i + 1).toNat = 2 ^ i.toNat + 2 ^ i.toNat := by rw [es, Nat.pow_succ]; omega
    cases hp : P i with
    | true =>
      refine ⟨X + 2 ^ i.toNat, ?_, by omega, ?_⟩
      · rw [mstep_t hp, e1, ← bOr_s (by omega) e2, ei]
      · rw [cst_t hp, e3, pcN_s (by omega) e2]
        omega
    | false => exact ⟨X, by rw [mstep_f hp, e1], by omega, by rw [cst_f hp, e3]⟩)
  exact h
theorem bcn_msk {P : Int → Bool} {n : Int} (n0 : 0 ≤ n) (n9 : n ≤ 30) : bcn (msk P n) = forI (cst P) 0 n 0 := by
  obtain ⟨X, e1, e2, e3⟩ := msk_pc (P := P) n0 n9
  have hp : 2 ^ n.toNat ≤ 2 ^ 30 := Nat.pow_le_pow_right (by decide) (by omega)
  rw [e1, e3, bcn_n (by omega)]
end
section
/-! what is asked of texts: pure words of both sides -/
theorem forI_cg {σ : Type} {f g : Int → σ → σ} {i n : Int} {v : σ} (h : i ≤ n) (hf : ∀ j v, i ≤ j → j < n → f j v = g j v) : forI f i n v = forI g i n v :=
  forI_rel (f := f) (g := g) (R := fun _ (a b : σ) => a = b) (w := v) h rfl (fun j v w h1 h2 h3 => by
    have h3 : v = w := h3
    subst h3
    exact hf j v h1 h2)
theorem cst_cg {P Q : Int → Bool} {i n v : Int} (h : i ≤ n) (hp : ∀ j, i ≤ j → j < n → P j = Q j) : forI (cst P) i n v = forI (cst Q) i n v := forI_cg h (fun j v h1 h2 => by
  unfold cst
  rw [hp j h1 h2])
theorem msk_cg {P Q : Int → Bool} {n : Int} (h : 0 ≤ n) (hp : ∀ j, 0 ≤ j → j < n → P j = Q j) : msk P n = msk Q n := forI_cg h (fun j v h1 h2 => by
  unfold mstep
  rw [hp j h1 h2])
theorem inB_ext {x y : Int} (hx : inr x) (hy : inr y) (h : ∀ k, 0 ≤ k → k < 32 → inB x k = inB y k) : x = y := by
  have e : zI x = zI y := b_ext (fun i hi => by
    have := h (i : Int) (by omega) (by omega)
    rw [inB_bt (by omega) (by omega), inB_bt (by omega) (by omega), Int.toNat_natCast] at this
    exact this)
  exact (zI_eq hx.1 hx.2 hy.1 hy.2).mp e
set_option maxRecDepth 100000 in
theorem inB_m2D : ∀ j : Fin 32, inB (-2) ((j.val : Nat) : Int) = decide (1 ≤ j.val) := by decide +kernel
theorem inB_m2 {j : Int} (j0 : 0 ≤ j) (j9 : j < 32) : inB (-2) j = decide (1 ≤ j) := by
  have h : inB (-2) ((j.toNat : Nat) : Int) = decide (1 ≤ j.toNat) := inB_m2D ⟨j.toNat, by omega⟩
  have e2 : ((j.toNat : Nat) : Int) = j := Int.toNat_of_nonneg j0
  rw [e2] at h
  rw [h]
  by_cases c : 1 ≤ j
  · rw [decide_eq_true c]; exact decide_eq_true (by omega)
  · rw [decide_eq_false c]; exact decide_eq_false (by omega)
/-- all places of a text, told as a set -/
theorem msk_all {P : Int → Bool} {n : Int} (n0 : 0 ≤ n) (n9 : n ≤ 30) (ha : inr (bShl 1 n - 1)) : msk P n = bShl 1 n - 1 ↔ ∀ j, 0 ≤ j → j < n → P j = true := by
  constructor
  · intro h j j0 jn
    have e := inB_msk (P := P) n0 (by omega) j0 (show j < 32 by omega)
    rw [h, inB_all n0 n9 j0 (by omega), decide_eq_true jn] at e
    exact e.symm
  · intro h
    exact inB_ext (msk_in P n) ha (fun k k0 k9 => by
      rw [inB_msk n0 (by omega) k0 k9, inB_all n0 n9 k0 k9]
      by_cases c : k < n
      · rw [decide_eq_true c, h k k0 c]; rfl
      · rw [decide_eq_false c]; rfl)
theorem alF_iff {C : Int → Int} {q n : Int} (n0 : 0 ≤ n) : findI (fun j => !so (C j) q) 0 n = n ↔ ∀ j, 0 ≤ j → j < n → so (C j) q = true := by
  have h1 := findI_all (P := fun j => !so (C j) q) (i := 0) (n := n) (e := n) n0 (Int.le_refl _)
  have h2 := (findI_in (P := fun j => !so (C j) q) (i := 0) (n := n) n0).2
  constructor
  · intro e1 j hj he
    have := h1.mp (by omega) j hj he
    simpa using this
  · intro e1
    have := h1.mpr (fun j hj he => by simpa using e1 j hj he)
    omega
theorem inB_1 {m c : Int} (h : bAnd (bShr m c) 1 ≠ 0) : inB m c = true := by
  rcases bAnd1 (bShr m c) with q | q
  · exact absurd q h
  · exact decide_eq_true q
theorem inB_0 {m c : Int} (h : bAnd (bShr m c) 1 = 0) : inB m c = false := decide_eq_false (by rw [h]; decide)
theorem inB_1' {m c : Int} (h : bAnd (bShr m c) 1 = 1) : inB m c = true := decide_eq_true h
theorem inB_0' {m c : Int} (h : bAnd (bShr m c) 1 ≠ 1) : inB m c = false := decide_eq_false h
/-! parted at told places -/
def ptF (n : Int) (C : Int → Int) (m : Int) : Nat → Int → Int → Int → Int
  | 0, _, _, p => p
  | k + 1, e, g, p => if n < e then p else if e = n ∨ inB m e = true then (if lon n C g < e - g then -1 else ptF n C m k (e + 1) e (p + 1)) else ptF n C m k (e + 1) g p
def ptI (n : Int) (C : Int → Int) (m e g p : Int) : Int := ptF n C m (n + 1 - e).toNat e g p
theorem ptI_e {n m e g p : Int} {C : Int → Int} (h : n < e) : ptI n C m e g p = p := by
  unfold ptI
  rw [show (n + 1 - e).toNat = 0 by omega]
  rfl
theorem ptI_s {n m e g p : Int} {C : Int → Int} (h : e ≤ n) : ptI n C m e g p = if e = n ∨ inB m e = true then (if lon n C g < e - g then -1 else ptI n C m (e + 1) e (p + 1)) else ptI n C m (e + 1) g p := by
  unfold ptI
  rw [show (n + 1 - e).toNat = (n + 1 - (e + 1)).toNat + 1 by omega]
  show (if n < e then p else _) = _
  rw [if_neg (by omega)]
theorem ptI_no {n m e g p : Int} {C : Int → Int} (h : e ≤ n) (c : e = n ∨ inB m e = true) (l : lon n C g < e - g) : ptI n C m e g p = -1 := by rw [ptI_s h, if_pos c, if_pos l]
theorem ptI_go {n m e g p : Int} {C : Int → Int} (h : e ≤ n) (c : e = n ∨ inB m e = true) (l : ¬ lon n C g < e - g) : ptI n C m e g p = ptI n C m (e + 1) e (p + 1) := by rw [ptI_s h, if_pos c, if_neg l]
theorem ptI_sk {n m e g p : Int} {C : Int → Int} (h : e < n) (c : inB m e = false) : ptI n C m e g p = ptI n C m (e + 1) g p := by
  rw [ptI_s (by omega), if_neg (fun q => by
    rcases q with q | q
    · omega
    · rw [c] at q
      cases q)]
theorem ptF_cg {n m : Int} {C D : Int → Int} (hc : tEq n C D) : ∀ (k : Nat) (e g p : Int), 0 ≤ g → g < e → ptF n C m k e g p = ptF n D m k e g p
  | 0, _, _, _, _, _ => rfl
  | k + 1, e, g, p, g0, ge => by
    show (if n < e then p else if e = n ∨ inB m e = true then (if lon n C g < e - g then -1 else ptF n C m k (e + 1) e (p + 1)) else ptF n C m k (e + 1) g p) = (if n < e then p else if e = n ∨ inB m e = true then (if lon n D g < e - g then -1 else ptF n D m k (e + 1) e (p + 1)) else ptF n D m k (e + 1) g p)
    by_cases q : n < e
    · rw [if_pos q, if_pos q]
    · rw [if_neg q, if_neg q, lon_cg hc g0 (by omega), ptF_cg hc k (e + 1) e (p + 1) (by omega) (by omega), ptF_cg hc k (e + 1) g p g0 (by omega)]
theorem ptI_cg {n m : Int} {C D : Int → Int} (hc : tEq n C D) : ptI n C m 1 0 0 = ptI n D m 1 0 0 := ptF_cg hc _ 1 0 0 (by decide) (by decide)
theorem ptF_in {n m : Int} {C : Int → Int} : ∀ (k : Nat) (e g p : Int), 0 ≤ p → -1 ≤ ptF n C m k e g p ∧ ptF n C m k e g p ≤ p + (k : Int)
  | 0, _, _, p, h => ⟨by show -1 ≤ p; omega, by show p ≤ p + ((0 : Nat) : Int); omega⟩
  | k + 1, e, g, p, h => by
    have h1 := ptF_in (n := n) (m := m) (C := C) k (e + 1) e (p + 1) (by omega)
    have h2 := ptF_in (n := n) (m := m) (C := C) k (e + 1) g p h
    have e1 : ptF n C m (k + 1) e g p = (if n < e then p else if e = n ∨ inB m e = true then (if lon n C g < e - g then -1 else ptF n C m k (e + 1) e (p + 1)) else ptF n C m k (e + 1) g p) := rfl
    rw [e1]
    split
    · omega
    · split
      · split <;> omega
      · omega
theorem pt_in {n m : Int} {C : Int → Int} (n0 : 0 ≤ n) : -1 ≤ ptI n C m 1 0 0 ∧ ptI n C m 1 0 0 ≤ n := by
  have h := ptF_in (n := n) (m := m) (C := C) (n + 1 - 1).toNat 1 0 0 (Int.le_refl 0)
  unfold ptI
  omega
/-- a set of places at which a text of n signs can be cut -/
def cutS (n m : Int) : Prop := 0 ≤ m ∧ ∀ k, 0 ≤ k → k < 31 → inB m k = true → 1 ≤ k ∧ k < n
theorem inB_31 {m : Int} (m0 : 0 ≤ m) (m9 : m ≤ 2147483647) : inB m 31 = false := by
  obtain ⟨M, rfl⟩ : ∃ M : Nat, m = (M : Int) := ⟨m.toNat, by omega⟩
  rw [inB_bt (by decide) (by decide), zI_nat]
  show (BitVec.ofNat 32 M).getLsbD 31 = false
  rw [BitVec.getLsbD_ofNat, Nat.testBit_eq_decide_div_mod_eq, show M / 2 ^ 31 = 0 from Nat.div_eq_of_lt (by omega)]
  rfl
theorem cutS_iff {n m : Int} (n0 : 0 ≤ n) (n9 : n ≤ 30) (m0 : 0 ≤ m) (m9 : m ≤ 2147483647) : bAnd m (bXor (bAnd (bShl 1 n - 1) (-2)) (-1)) = 0 ↔ cutS n m := by
  have hb : ∀ k, 0 ≤ k → k < 32 → inB (bAnd m (bXor (bAnd (bShl 1 n - 1) (-2)) (-1))) k = (inB m k && !(decide (k < n) && decide (1 ≤ k))) := fun k k0 k9 => by
    rw [inB_and k0 k9, inB_not k0 k9, inB_and k0 k9, inB_all n0 n9 k0 k9, inB_m2 k0 k9]
  constructor
  · intro h
    refine ⟨m0, fun k k0 k9 hk => ?_⟩
    have e := hb k k0 (by omega)
    rw [h, inB0, hk] at e
    by_cases c : k < n
    · by_cases c2 : 1 ≤ k
      · exact ⟨c2, c⟩
      · rw [decide_eq_true c, decide_eq_false c2] at e
        cases e
    · rw [decide_eq_false c] at e
      cases e
  · rintro ⟨-, h⟩
    refine inB_ext (bAnd_in _ _) ⟨by decide, by decide⟩ (fun k k0 k9 => ?_)
    rw [hb k k0 k9, inB0]
    cases hk : inB m k with
    | false => rfl
    | true =>
      rcases (by omega : k < 31 ∨ k = 31) with q | q
      · have := h k k0 q hk
        rw [decide_eq_true this.1, decide_eq_true this.2]
        rfl
      · rw [q, inB_31 m0 m9] at hk
        cases hk
theorem inB_z {m : Int} (hm : inr m) : inB m 0 = true ↔ bAnd m 1 = 1 := by
  have e : bShr m 0 = m := by
    unfold bShr
    rw [show zI m >>> (zI 0 &&& 31) = zI m by rw [zI_0, show ((0 : Int32) &&& 31) = 0 by decide +kernel]; exact Int32.shiftRight_zero]
    exact zI_toInt hm.1 hm.2
  unfold inB
  rw [e, decide_eq_true_eq]
/-- a set of places that is told out, as far as the places below i show -/
def outS (n m i : Int) : Prop := m < 0 ∨ inB m 0 = true ∨ ∃ k, 1 ≤ k ∧ k < i ∧ inB m k = true ∧ n ≤ k
theorem outS_1 {n m : Int} : outS n m 1 ↔ (m < 0 ∨ inB m 0 = true) := by
  constructor
  · rintro (h | h | ⟨k, h1, h2, _⟩)
    · exact Or.inl h
    · exact Or.inr h
    · omega
  · rintro (h | h)
    · exact Or.inl h
    · exact Or.inr (Or.inl h)
theorem outS_t {n m i : Int} {o : Bool} (i1 : 1 ≤ i) (hb : inB m i = true) (hn : n ≤ i) : ((o || true) = true ↔ outS n m (i + 1)) := ⟨fun _ => Or.inr (Or.inr ⟨i, i1, by omega, hb, hn⟩), fun _ => Bool.or_true o⟩
theorem outS_f {n m i : Int} {o : Bool} (ho : o = true ↔ outS n m i) (h : inB m i = false ∨ i < n) : ((o || false) = true ↔ outS n m (i + 1)) := by
  rw [Bool.or_false, ho]
  constructor
  · rintro (h | h | ⟨k, h1, h2, h3⟩)
    · exact Or.inl h
    · exact Or.inr (Or.inl h)
    · exact Or.inr (Or.inr ⟨k, h1, by omega, h3⟩)
  · rintro (q | q | ⟨k, h1, h2, h3, h4⟩)
    · exact Or.inl q
    · exact Or.inr (Or.inl q)
    · rcases (by omega : k < i ∨ k = i) with c | c
      · exact Or.inr (Or.inr ⟨k, h1, c, h3, h4⟩)
      · rw [c] at h3 h4
        rcases h with h | h
        · rw [h] at h3
          cases h3
        · omega
theorem outS_iff {n m : Int} : outS n m 31 ↔ ¬ cutS n m := by
  constructor
  · rintro (h | h | ⟨k, h1, h2, h3, h4⟩) ⟨c1, c2⟩
    · omega
    · have := c2 0 (Int.le_refl 0) (by decide) h
      omega
    · have := c2 k (by omega) h2 h3
      omega
  · intro h
    refine Classical.byContradiction fun q => h ⟨?_, fun k k0 k9 hk => ?_⟩
    · rcases (by omega : 0 ≤ m ∨ m < 0) with c | c
      · exact c
      · exact absurd (Or.inl c) q
    · rcases (by omega : k = 0 ∨ (1 ≤ k ∧ k < n) ∨ (1 ≤ k ∧ n ≤ k)) with c | c | c
      · rw [c] at hk
        exact absurd (Or.inr (Or.inl hk)) q
      · exact c
      · exact absurd (Or.inr (Or.inr ⟨k, c.1, k9, hk, c.2⟩)) q
/-! the fewest pieces -/
def fwP (n : Int) (C : Int → Int) (B : Int → Int) : Prop := B 0 = 0 ∧ ∀ e, 1 ≤ e → e ≤ n → (∃ g, 0 ≤ g ∧ g < e ∧ e - g ≤ lon n C g ∧ B e = B g + 1) ∧ ∀ g, 0 ≤ g → g < e → e - g ≤ lon n C g → B e ≤ B g + 1
theorem fw_u {n : Int} {C D B B2 : Int → Int} (hc : tEq n C D) (h : fwP n C B) (h2 : fwP n D B2) : ∀ k : Nat, ∀ e, 0 ≤ e → e ≤ (k : Int) → e ≤ n → B e = B2 e
  | 0, e, e0, ek, _ => by
    rw [show e = 0 by omega, h.1, h2.1]
  | k + 1, e, e0, ek, en => by
    rcases (by omega : e ≤ (k : Int) ∨ e = (k : Int) + 1) with q | q
    · exact fw_u hc h h2 k e e0 q en
    · obtain ⟨⟨g, g0, g1, g2, g3⟩, a1⟩ := h.2 e (by omega) en
      obtain ⟨⟨p, p0, p1, p2, p3⟩, b1⟩ := h2.2 e (by omega) en
      have x1 := b1 g g0 g1 (by rw [← lon_cg hc g0 (by omega)]; exact g2)
      have x2 := a1 p p0 p1 (by rw [lon_cg hc p0 (by omega)]; exact p2)
      have y1 := fw_u hc h h2 k g g0 (by omega) (by omega)
      have y2 := fw_u hc h h2 k p p0 (by omega) (by omega)
      omega
theorem fw_e {n : Int} {C D B B2 : Int → Int} (hc : tEq n C D) (n0 : 0 ≤ n) (h : fwP n C B) (h2 : fwP n D B2) : B n = B2 n := fw_u hc h h2 n.toNat n n0 (by omega) (Int.le_refl n)
/-- the class's table while pieces from i on are still wanting -/
def fwC (n : Int) (C B : Int → Int) (i : Int) : Prop := (∀ e, 0 ≤ e → e ≤ n → 0 ≤ B e ∧ B e ≤ e ∧ (B e = e ∨ ∃ g, 0 ≤ g ∧ g < e ∧ g < i ∧ e - g ≤ lon n C g ∧ B e = B g + 1)) ∧ ∀ e g, 0 ≤ g → g < e → e ≤ n → g < i → e - g ≤ lon n C g → B e ≤ B g + 1
theorem fwC_0 {n : Int} {C B : Int → Int} (h : ∀ e, 0 ≤ e → e ≤ n → B e = e) : fwC n C B 0 := ⟨fun e e0 en => by rw [h e e0 en]; exact ⟨e0, Int.le_refl e, Or.inl rfl⟩, fun e g g0 _ _ gi => by omega⟩
theorem fwC_n {n : Int} {C B : Int → Int} (n0 : 0 ≤ n) (h : fwC n C B n) : fwP n C B := by
  obtain ⟨h1, h2⟩ := h
  have hd : ∀ k : Nat, (k : Int) ≤ n → True := fun _ _ => trivial
  refine ⟨by have := h1 0 (by omega) n0; omega, fun e e1 en => ⟨?_, fun g g0 ge gl => h2 e g g0 ge en (by omega) gl⟩⟩
  obtain ⟨a1, a2, a3 | ⟨g, g0, g1, _, g3, g4⟩⟩ := h1 e (by omega) en
  · have hl := lon_in (n := n) (C := C) (p := e - 1) (by omega)
    have h3 := h2 e (e - 1) (by omega) (by omega) en (by omega) (by omega)
    have h4 := h1 (e - 1) (by omega) (by omega)
    exact ⟨e - 1, by omega, by omega, by omega, by omega⟩
  · exact ⟨g, g0, g1, g3, g4⟩
/-- .. while the piece from i goes on, up to e0 -/
def fwD (n : Int) (C B : Int → Int) (i e0 : Int) : Prop := (∀ e, 0 ≤ e → e ≤ n → 0 ≤ B e ∧ B e ≤ e ∧ (B e = e ∨ ∃ g, 0 ≤ g ∧ g < e ∧ g < i + 1 ∧ e - g ≤ lon n C g ∧ B e = B g + 1)) ∧ ∀ e g, 0 ≤ g → g < e → e ≤ n → (g < i ∨ (g = i ∧ e < e0)) → e - g ≤ lon n C g → B e ≤ B g + 1
theorem fwD_0 {n i : Int} {C B : Int → Int} (h : fwC n C B i) : fwD n C B i (i + 1) := ⟨fun e e0 en => by
  obtain ⟨a1, a2, a3 | ⟨g, g0, g1, g2, g3, g4⟩⟩ := h.1 e e0 en
  · exact ⟨a1, a2, Or.inl a3⟩
  · exact ⟨a1, a2, Or.inr ⟨g, g0, g1, by omega, g3, g4⟩⟩, fun e g g0 ge en gi gl => h.2 e g g0 ge en (by omega) gl⟩
theorem fwD_e {n i e0 : Int} {C B : Int → Int} (h : fwD n C B i e0) (he : i + lon n C i < e0) : fwC n C B (i + 1) := ⟨h.1, fun e g g0 ge en gi gl => h.2 e g g0 ge en (by
  rcases (by omega : g < i ∨ g = i) with q | q
  · exact Or.inl q
  · rw [q] at gl
    exact Or.inr ⟨q, by omega⟩) gl⟩
theorem fwD_s {n i e0 : Int} {C B : Int → Int} (h : fwD n C B i e0) (i0 : 0 ≤ i) (ie : i < e0) (en : e0 ≤ n) (hl : e0 - i ≤ lon n C i) : fwD n C (uF B e0 (if B i + 1 < B e0 then B i + 1 else B e0)) i (e0 + 1) := by
  have hbi := h.1 i i0 (by omega)
  have hbe := h.1 e0 (by omega) en
  have hn : ∀ g, g < e0 → uF B e0 (if B i + 1 < B e0 then B i + 1 else B e0) g = B g := fun g hg => uF_n (by omega)
  have hv : uF B e0 (if B i + 1 < B e0 then B i + 1 else B e0) e0 = if B i + 1 < B e0 then B i + 1 else B e0 := uF_s
  have hle : (if B i + 1 < B e0 then B i + 1 else B e0) ≤ B e0 := by split <;> omega
  have hle2 : (if B i + 1 < B e0 then B i + 1 else B e0) ≤ B i + 1 := by split <;> omega
  refine ⟨fun e e1 e2 => ?_, fun e g g0 ge en2 gi gl => ?_⟩
  · by_cases q : e = e0
    · subst q
      rw [hv]
      by_cases c : B i + 1 < B e
      · rw [if_pos c]
        exact ⟨by omega, by omega, Or.inr ⟨i, i0, ie, by omega, hl, by rw [uF_n (show i ≠ e by omega)]⟩⟩
      · rw [if_neg c]
        obtain ⟨a1, a2, a3 | ⟨g, g0, g1, g2, g3, g4⟩⟩ := hbe
        · exact ⟨a1, a2, Or.inl a3⟩
        · exact ⟨a1, a2, Or.inr ⟨g, g0, g1, g2, g3, by rw [uF_n (show g ≠ e by omega)]; exact g4⟩⟩
    · rw [uF_n q]
      obtain ⟨a1, a2, a3 | ⟨g, g0, g1, g2, g3, g4⟩⟩ := h.1 e e1 e2
      · exact ⟨a1, a2, Or.inl a3⟩
      · exact ⟨a1, a2, Or.inr ⟨g, g0, g1, g2, g3, by rw [hn g (by omega)]; exact g4⟩⟩
  · rw [hn g (by omega)]
    by_cases q : e = e0
    · subst q
      rw [hv]
      rcases (by omega : g < i ∨ g = i) with c | c
      · have := h.2 e g g0 ge en2 (Or.inl c) gl
        omega
      · rw [c]
        exact hle2
    · rw [uF_n q]
      exact h.2 e g g0 ge en2 (by omega) gl
/-- the reference's table: all ends below e0 are done -/
def fwO (n : Int) (C B : Int → Int) (e0 : Int) : Prop := B 0 = 0 ∧ ∀ e, 1 ≤ e → e < e0 → 0 ≤ B e ∧ B e ≤ e ∧ (∃ g, 0 ≤ g ∧ g < e ∧ e - g ≤ lon n C g ∧ B e = B g + 1) ∧ ∀ g, 0 ≤ g → g < e → e - g ≤ lon n C g → B e ≤ B g + 1
/-- .. each end by all last pieces -/
def fwR (n : Int) (C B : Int → Int) (e0 g0 : Int) : Prop := fwO n C B e0 ∧ 0 ≤ B e0 ∧ B e0 ≤ 31 ∧ (B e0 = 31 ∨ ∃ g, 0 ≤ g ∧ g < g0 ∧ e0 - g ≤ lon n C g ∧ B e0 = B g + 1) ∧ ∀ g, 0 ≤ g → g < g0 → e0 - g ≤ lon n C g → B e0 ≤ B g + 1
theorem fwO_u {n e0 x : Int} {C B : Int → Int} (h1 : 1 ≤ e0) (h : fwO n C B e0) : fwO n C (uF B e0 x) e0 := by
  have hn : ∀ g, g < e0 → uF B e0 x g = B g := fun g hg => uF_n (by omega)
  refine ⟨by rw [hn 0 (by omega)]; exact h.1, fun e e1 e2 => ?_⟩
  obtain ⟨a1, a2, ⟨g, g0, g1, g2, g3⟩, a4⟩ := h.2 e e1 e2
  rw [hn e e2]
  exact ⟨a1, a2, ⟨g, g0, g1, g2, by rw [hn g (by omega)]; exact g3⟩, fun g g0 g1 g2 => by rw [hn g (by omega)]; exact a4 g g0 g1 g2⟩
theorem fwR_0 {n e0 : Int} {C B : Int → Int} (h1 : 1 ≤ e0) (h : fwO n C B e0) : fwR n C (uF B e0 31) e0 0 := ⟨fwO_u h1 h, by rw [uF_s]; decide, by rw [uF_s]; decide, Or.inl uF_s, fun g g0 g1 _ => by omega⟩
theorem fwR_k {n e0 g0 : Int} {C B : Int → Int} (h : fwR n C B e0 g0) (hl : ¬ e0 - g0 ≤ lon n C g0) : fwR n C B e0 (g0 + 1) := by
  obtain ⟨a1, a2, a3, a4, a5⟩ := h
  refine ⟨a1, a2, a3, ?_, fun g h0 h1 h2 => ?_⟩
  · rcases a4 with a4 | ⟨g, b0, b1, b2, b3⟩
    · exact Or.inl a4
    · exact Or.inr ⟨g, b0, by omega, b2, b3⟩
  · rcases (by omega : g < g0 ∨ g = g0) with q | q
    · exact a5 g h0 q h2
    · rw [q] at h2
      exact absurd h2 hl
theorem fwO_r {n e0 g : Int} {C B : Int → Int} (h : fwO n C B e0) (g0 : 0 ≤ g) (ge : g < e0) : 0 ≤ B g ∧ B g ≤ g := by
  rcases (by omega : g = 0 ∨ 1 ≤ g) with q | q
  · rw [q, h.1]
    omega
  · have := h.2 g q ge
    exact ⟨this.1, this.2.1⟩
theorem fwR_s {n e0 g0 : Int} {C B : Int → Int} (h1 : 1 ≤ e0) (e9 : e0 ≤ 30) (h : fwR n C B e0 g0) (h0 : 0 ≤ g0) (hg : g0 < e0) (hl : e0 - g0 ≤ lon n C g0) : fwR n C (uF B e0 (if B g0 + 1 < B e0 then B g0 + 1 else B e0)) e0 (g0 + 1) := by
  obtain ⟨a1, a2, a3, a4, a5⟩ := h
  have hr := fwO_r a1 h0 hg
  have hn : ∀ g, g < e0 → uF B e0 (if B g0 + 1 < B e0 then B g0 + 1 else B e0) g = B g := fun g hg => uF_n (by omega)
  have hv : uF B e0 (if B g0 + 1 < B e0 then B g0 + 1 else B e0) e0 = if B g0 + 1 < B e0 then B g0 + 1 else B e0 := uF_s
  have hle : (if B g0 + 1 < B e0 then B g0 + 1 else B e0) ≤ B e0 := by split <;> omega
  have hle2 : (if B g0 + 1 < B e0 then B g0 + 1 else B e0) ≤ B g0 + 1 := by split <;> omega
  have hge : 0 ≤ (if B g0 + 1 < B e0 then B g0 + 1 else B e0) := by split <;> omega
  refine ⟨fwO_u h1 a1, by rw [hv]; exact hge, by rw [hv]; omega, ?_, fun g b0 b1 b2 => ?_⟩
  · rw [hv]
    by_cases c : B g0 + 1 < B e0
    · rw [if_pos c]
      exact Or.inr ⟨g0, h0, by omega, hl, by rw [uF_n (show g0 ≠ e0 by omega)]⟩
    · rw [if_neg c]
      rcases a4 with a4 | ⟨g, b0, b1, b2, b3⟩
      · exact Or.inl a4
      · exact Or.inr ⟨g, b0, by omega, b2, by rw [uF_n (show g ≠ e0 by omega)]; exact b3⟩
  · rw [hv, hn g (by omega)]
    rcases (by omega : g < g0 ∨ g = g0) with q | q
    · have := a5 g b0 q b2
      omega
    · rw [q]
      exact hle2
theorem fwR_e {n e0 : Int} {C B : Int → Int} (h1 : 1 ≤ e0) (en : e0 ≤ n) (e9 : e0 ≤ 30) (h : fwR n C B e0 e0) : fwO n C B (e0 + 1) := by
  obtain ⟨a1, a2, a3, a4, a5⟩ := h
  have hl := lon_in (n := n) (C := C) (p := e0 - 1) (by omega)
  have h5 := a5 (e0 - 1) (by omega) (by omega) (by omega)
  have hr := fwO_r a1 (g := e0 - 1) (by omega) (by omega)
  refine ⟨a1.1, fun e b1 b2 => ?_⟩
  rcases (by omega : e < e0 ∨ e = e0) with q | q
  · exact a1.2 e b1 q
  · rw [q]
    refine ⟨a2, by omega, ?_, a5⟩
    rcases a4 with a4 | a4
    · omega
    · exact a4
theorem fwO_n {n : Int} {C B : Int → Int} (h : fwO n C B (n + 1)) : fwP n C B := ⟨h.1, fun e e1 en => ⟨(h.2 e e1 (by omega)).2.2.1, (h.2 e e1 (by omega)).2.2.2⟩⟩
/-! the back row -/
def bk (n : Int) (C : Int → Int) (e : Int) : Int := findI (fun p => decide (e - p ≤ lon n C p)) 0 e
theorem bk_in {n e : Int} {C : Int → Int} (e1 : 1 ≤ e) (en : e ≤ n) : 0 ≤ bk n C e ∧ bk n C e < e ∧ e - bk n C e ≤ lon n C (bk n C e) := by
  have h := findI_in (P := fun p => decide (e - p ≤ lon n C p)) (i := 0) (n := e) (by omega)
  have hl := lon_in (n := n) (C := C) (p := e - 1) (by omega)
  have hlt : bk n C e < e := by
    rcases (by omega : bk n C e < e ∨ e - 1 < bk n C e) with q | q
    · exact q
    · have := of_decide_eq_false (findI_no (P := fun p => decide (e - p ≤ lon n C p)) (i := 0) (n := e) (j := e - 1) (by omega) q)
      omega
  exact ⟨h.1, hlt, of_decide_eq_true (findI_yes (P := fun p => decide (e - p ≤ lon n C p)) (i := 0) (n := e) (by omega) hlt)⟩
theorem bk_cg {n e : Int} {C D : Int → Int} (hc : tEq n C D) (e1 : 0 ≤ e) (en : e ≤ n) : bk n C e = bk n D e := findI_cg e1 (fun j j0 je => by
  show decide (e - j ≤ lon n C j) = decide (e - j ≤ lon n D j)
  rw [lon_cg hc j0 (by omega)])
def bkc (n : Int) (C : Int → Int) : Nat → Int
  | 0 => n
  | m + 1 => if 0 < bkc n C m then bk n C (bkc n C m) else bkc n C m
theorem bkc_s {n : Int} {C : Int → Int} {m : Nat} (h : 0 < bkc n C m) : bkc n C (m + 1) = bk n C (bkc n C m) := if_pos h
theorem bkc_in {n : Int} {C : Int → Int} (n0 : 0 ≤ n) : ∀ m : Nat, 0 ≤ bkc n C m ∧ bkc n C m ≤ n
  | 0 => ⟨n0, Int.le_refl n⟩
  | m + 1 => by
    have e := bkc_in (C := C) n0 m
    show 0 ≤ (if 0 < bkc n C m then bk n C (bkc n C m) else bkc n C m) ∧ (if 0 < bkc n C m then bk n C (bkc n C m) else bkc n C m) ≤ n
    by_cases q : 0 < bkc n C m
    · have := bk_in (n := n) (C := C) (e := bkc n C m) (by omega) e.2
      rw [if_pos q]
      omega
    · rw [if_neg q]
      exact e
theorem bkc_cg {n : Int} {C D : Int → Int} (n0 : 0 ≤ n) (hc : tEq n C D) : ∀ m : Nat, bkc n C m = bkc n D m
  | 0 => rfl
  | m + 1 => by
    have e := bkc_cg n0 hc m
    have hi := bkc_in (C := D) n0 m
    show (if 0 < bkc n C m then bk n C (bkc n C m) else bkc n C m) = (if 0 < bkc n D m then bk n D (bkc n D m) else bkc n D m)
    rw [e, bk_cg hc hi.1 hi.2]
/-- the first h beginnings of the back row, as a set; 0 may be left out -/
def bkM (n : Int) (C : Int → Int) (z : Bool) (h : Nat) (v : Int) : Prop := ∀ k, 0 ≤ k → k < 32 → (inB v k = true ↔ ((z = true ∨ k ≠ 0) ∧ ∃ m : Nat, m < h ∧ bkc n C (m + 1) = k))
theorem bkM_0 {n : Int} {C : Int → Int} {z : Bool} : bkM n C z 0 0 := fun k k0 k9 => ⟨(fun h => by { rw [inB0] at h; cases h }), fun ⟨_, m, hm, _⟩ => absurd hm (Nat.not_lt_zero m)⟩
theorem bkM_s {n v b : Int} {C : Int → Int} {z : Bool} {h : Nat} (hv : bkM n C z h v) (b0 : 0 ≤ b) (b9 : b < 32) (hz : z = true ∨ b ≠ 0) (e : bkc n C (h + 1) = b) : bkM n C z (h + 1) (bOr v (bShl 1 b)) := fun k k0 k9 => by
  rw [inB_or k0 k9, inB_sh b0 b9 k0 k9, Bool.or_eq_true, decide_eq_true_eq, hv k k0 k9]
  constructor
  · rintro (⟨c, m, m1, m2⟩ | c)
    · exact ⟨c, m, by omega, m2⟩
    · exact ⟨by rw [← c]; exact hz, h, by omega, e.trans c⟩
  · rintro ⟨c, m, m1, m2⟩
    rcases (by omega : m < h ∨ m = h) with q | q
    · exact Or.inl ⟨c, m, q, m2⟩
    · right
      rw [q, e] at m2
      exact m2
theorem bkM_k {n v : Int} {C : Int → Int} {h : Nat} (hv : bkM n C false h v) (e : bkc n C (h + 1) = 0) : bkM n C false (h + 1) (bOr v 0) := fun k k0 k9 => by
  rw [inB_or k0 k9, inB0, Bool.or_false, hv k k0 k9]
  constructor
  · rintro ⟨c, m, m1, m2⟩
    exact ⟨c, m, by omega, m2⟩
  · rintro ⟨c, m, m1, m2⟩
    rcases (by omega : m < h ∨ m = h) with q | q
    · exact ⟨c, m, q, m2⟩
    · rw [q, e] at m2
      rcases c with c | c
      · cases c
      · exact absurd m2.symm c
theorem bkM_c {n v : Int} {C : Int → Int} {h : Nat} (hv : bkM n C true h v) : bkM n C false h (bAnd v (-2)) := fun k k0 k9 => by
  rw [inB_and k0 k9, inB_m2 k0 k9, Bool.and_eq_true, decide_eq_true_eq, hv k k0 k9]
  constructor
  · rintro ⟨⟨_, m, m1, m2⟩, c⟩
    exact ⟨Or.inr (by omega), m, m1, m2⟩
  · rintro ⟨c, m, m1, m2⟩
    refine ⟨⟨Or.inl rfl, m, m1, m2⟩, ?_⟩
    rcases c with c | c
    · cases c
    · omega
/-- two sets of the same back row -/
theorem bkM_u {n v v2 : Int} {C D : Int → Int} {h h2 : Nat} (n0 : 0 ≤ n) (hc : tEq n C D) (r1 : inr v) (r2 : inr v2) (a : bkM n C false h v) (ea : bkc n C h = 0) (b : bkM n D false h2 v2) (eb : bkc n D h2 = 0) : v = v2 := by
  have fix : ∀ (E : Int → Int) (p : Nat), bkc n E p = 0 → ∀ q : Nat, bkc n E (p + q) = 0 := fun E p hp q => by
    induction q with
    | zero => exact hp
    | succ q ih =>
      show (if 0 < bkc n E (p + q) then bk n E (bkc n E (p + q)) else bkc n E (p + q)) = 0
      rw [ih, if_neg (by decide)]
  refine inB_ext r1 r2 (fun k k0 k9 => ?_)
  have go : inB v k = true ↔ inB v2 k = true := by
    rw [a k k0 k9, b k k0 k9]
    constructor
    · rintro ⟨c, m, m1, m2⟩
      refine ⟨c, m, ?_, by rw [← bkc_cg n0 hc]; exact m2⟩
      rcases Nat.lt_or_ge m h2 with q | q
      · exact q
      · have e := fix D h2 eb (m + 1 - h2)
        rw [show h2 + (m + 1 - h2) = m + 1 by omega, ← bkc_cg n0 hc, m2] at e
        rcases c with c | c
        · cases c
        · exact absurd e c
    · rintro ⟨c, m, m1, m2⟩
      refine ⟨c, m, ?_, by rw [bkc_cg n0 hc]; exact m2⟩
      rcases Nat.lt_or_ge m h with q | q
      · exact q
      · have e := fix C h ea (m + 1 - h)
        rw [show h + (m + 1 - h) = m + 1 by omega, bkc_cg n0 hc, m2] at e
        rcases c with c | c
        · cases c
        · exact absurd e c
  cases e1 : inB v k with
  | true => exact (go.mp e1).symm
  | false =>
    cases e2 : inB v2 k with
    | false => rfl
    | true =>
      have := go.mpr e2
      rw [e1] at this
      cases this
/-! how many pieces, and where they are cut -/
/-- h pieces make the text -/
def plN (n : Int) (C : Int → Int) (h : Nat) : Prop := n ≤ plc n C h ∧ ∀ a : Nat, a < h → plc n C a < n
theorem plN_u {n : Int} {C D : Int → Int} {h h2 : Nat} (n0 : 0 ≤ n) (hc : tEq n C D) (a : plN n C h) (b : plN n D h2) : h = h2 := by
  rcases (by omega : h = h2 ∨ h < h2 ∨ h2 < h) with q | q | q
  · exact q
  · have := b.2 h q
    rw [← plc_cg n0 hc] at this
    have := a.1
    omega
  · have := a.2 h2 q
    rw [plc_cg n0 hc] at this
    have := b.1
    omega
theorem beg_pc {n : Int} {C : Int → Int} (n0 : 0 ≤ n) (n9 : n ≤ 30) : ∃ (h X : Nat), plN n C h ∧ beg n C = (X : Int) ∧ X < 2 ^ n.toNat ∧ pcN X = h := by
  have hz := forI_ind (f := bgs n C) (P := fun i (z : Int × Int) => ∃ (h X : Nat), z.1 = plc n C h ∧ i ≤ z.1 ∧ (∀ a : Nat, a < h → plc n C a < i) ∧ z.2 = (X : Int) ∧ X < 2 ^ i.toNat ∧ pcN X = h) (i := 0) (n := n) n0 (v := ((0 : Int), (0 : Int))) ⟨0, 0, rfl, Int.le_refl _, fun a ha => absurd ha (Nat.not_lt_zero a), rfl, by decide, pcN_0⟩ (fun i z h1 h2 h3 => by
    obtain ⟨e, v⟩ := z
    obtain ⟨h, X, e1, e2, e3, e4, e5, e6⟩ := h3
    have e1 : e = plc n C h := e1
    have e2 : i ≤ e := e2
    have e4 : v = (X : Int) := e4
    have es : (i + 1).toNat = i.toNat + 1 := by omega
    have ei : ((i.toNat : Nat) : Int) = i := Int.toNat_of_nonneg h1
    have hpow : 2 ^ (i + 1).toNat = 2 ^ i.toNat + 2 ^ i.toNat := by rw [es, Nat.pow_succ]; omega
    by_cases q : i = e
    · rw [bgs_t q]
      have hl := lon_in (n := n) (C := C) (p := e) (by omega)
      refine ⟨h + 1, X + 2 ^ i.toNat, ?_, ?_, fun a ha => ?_, ?_, by omega, ?_⟩
      · show e + lon n C i = _
        rw [plc_s (by omega), ← e1, q]
      · show i + 1 ≤ e + lon n C i
        rw [q]
        omega
      · rcases (by omega : a < h ∨ a = h) with c | c
        · have := e3 a c
          omega
        · rw [c, ← e1]
          omega
      · show bOr v (bShl 1 i) = _
        rw [e4, ← bOr_s (by omega) e5, ei]
      · rw [pcN_s (by omega) e5, e6]
    · rw [bgs_f q]
      exact ⟨h, X, e1, by show i + 1 ≤ e; omega, fun a ha => by have := e3 a ha; omega, e4, by omega, e6⟩)
  obtain ⟨h, X, e1, e2, e3, e4, e5, e6⟩ := hz
  exact ⟨h, X, ⟨by rw [← e1]; exact e2, e3⟩, e4, e5, e6⟩
/-- how many pieces the class counts -/
theorem bcn_beg {n : Int} {C : Int → Int} (n0 : 0 ≤ n) (n9 : n ≤ 30) : ∃ h : Nat, plN n C h ∧ bcn (beg n C) = (h : Int) := by
  obtain ⟨h, X, a, e, hx, hp⟩ := beg_pc (C := C) n0 n9
  have hp2 : 2 ^ n.toNat ≤ 2 ^ 30 := Nat.pow_le_pow_right (by decide) (by omega)
  exact ⟨h, a, by rw [e, bcn_n (by omega), hp]⟩
theorem plN_le {n : Int} {C : Int → Int} {h : Nat} (n0 : 0 ≤ n) (a : plN n C h) : (h : Int) ≤ n := by
  have hb : ∀ m : Nat, m ≤ h → (m : Int) ≤ plc n C m := fun m => by
    induction m with
    | zero => exact fun _ => Int.le_refl _
    | succ m ih =>
      intro hm
      have h1 := ih (by omega)
      have h2 := a.2 m (by omega)
      have h3 := plc_lt (n := n) (C := C) (b := m + 1) h2 (by omega)
      omega
  have h1 := hb h (Nat.le_refl h)
  have h2 := (plc_in (C := C) n0 h).2
  omega
/-- the places at which pieces begin, but 0 -/
def plM (n : Int) (C : Int → Int) (h : Nat) (v : Int) : Prop := ∀ k, 0 ≤ k → k < 32 → (inB v k = true ↔ (k ≠ 0 ∧ ∃ m : Nat, m < h ∧ plc n C m = k))
theorem plM_0 {n : Int} {C : Int → Int} : plM n C 0 0 := fun k k0 k9 => ⟨(fun h => by { rw [inB0] at h; cases h }), fun ⟨_, m, hm, _⟩ => absurd hm (Nat.not_lt_zero m)⟩
theorem plM_s {n v p : Int} {C : Int → Int} {h : Nat} (hv : plM n C h v) (p0 : 0 ≤ p) (p9 : p < 32) (hz : p ≠ 0) (e : plc n C h = p) : plM n C (h + 1) (bOr v (bShl 1 p)) := fun k k0 k9 => by
  rw [inB_or k0 k9, inB_sh p0 p9 k0 k9, Bool.or_eq_true, decide_eq_true_eq, hv k k0 k9]
  constructor
  · rintro (⟨c, m, m1, m2⟩ | c)
    · exact ⟨c, m, by omega, m2⟩
    · exact ⟨by rw [← c]; exact hz, h, by omega, e.trans c⟩
  · rintro ⟨c, m, m1, m2⟩
    rcases (by omega : m < h ∨ m = h) with q | q
    · exact Or.inl ⟨c, m, q, m2⟩
    · right
      rw [q, e] at m2
      exact m2
theorem plM_k {n v : Int} {C : Int → Int} {h : Nat} (hv : plM n C h v) (e : plc n C h = 0) : plM n C (h + 1) (bOr v 0) := fun k k0 k9 => by
  rw [inB_or k0 k9, inB0, Bool.or_false, hv k k0 k9]
  constructor
  · rintro ⟨c, m, m1, m2⟩
    exact ⟨c, m, by omega, m2⟩
  · rintro ⟨c, m, m1, m2⟩
    rcases (by omega : m < h ∨ m = h) with q | q
    · exact ⟨c, m, q, m2⟩
    · rw [q, e] at m2
      exact absurd m2.symm c
theorem begK {n k : Int} {C : Int → Int} (n0 : 0 ≤ n) (n9 : n ≤ 30) (k0 : n ≤ k) (k9 : k < 32) : inB (beg n C) k = false := by
  obtain ⟨h, X, a, e, hx, hp⟩ := beg_pc (C := C) n0 n9
  have hp2 : 2 ^ n.toNat ≤ 2 ^ k.toNat := Nat.pow_le_pow_right (by decide) (by omega)
  rw [e, inB_bt (by omega) k9, zI_nat]
  show (BitVec.ofNat 32 X).getLsbD k.toNat = false
  rw [BitVec.getLsbD_ofNat, Nat.testBit_eq_decide_div_mod_eq, Nat.div_eq_of_lt (by omega)]
  simp
theorem begM {n : Int} {C : Int → Int} (n0 : 0 ≤ n) (n9 : n ≤ 30) : ∃ h : Nat, plN n C h ∧ plM n C h (bAnd (beg n C) (-2)) := by
  obtain ⟨h, X, a, -⟩ := beg_pc (C := C) n0 n9
  refine ⟨h, a, fun k k0 k9 => ?_⟩
  rw [inB_and k0 k9, inB_m2 k0 k9, Bool.and_eq_true, decide_eq_true_eq]
  rcases (by omega : k < n ∨ n ≤ k) with q | q
  · rw [begB n0 n9 k0 q]
    constructor
    · rintro ⟨⟨m, hm⟩, c⟩
      refine ⟨by omega, m, ?_, hm⟩
      rcases Nat.lt_or_ge m h with z | z
      · exact z
      · have := plc_m (n := n) (C := C) h (m - h)
        rw [show h + (m - h) = m by omega] at this
        have := a.1
        omega
    · rintro ⟨c, m, _, hm⟩
      exact ⟨⟨m, hm⟩, by omega⟩
  · rw [begK n0 n9 q k9]
    constructor
    · rintro ⟨c, _⟩
      cases c
    · rintro ⟨_, m, m1, hm⟩
      have := a.2 m m1
      omega
theorem plM_u {n v v2 : Int} {C D : Int → Int} {h h2 : Nat} (n0 : 0 ≤ n) (hc : tEq n C D) (r1 : inr v) (r2 : inr v2) (a : plN n C h) (va : plM n C h v) (b : plN n D h2) (vb : plM n D h2 v2) : v = v2 := by
  have e := plN_u n0 hc a b
  subst e
  refine inB_ext r1 r2 (fun k k0 k9 => ?_)
  have go : inB v k = true ↔ inB v2 k = true := by
    rw [va k k0 k9, vb k k0 k9]
    constructor
    · rintro ⟨c, m, m1, m2⟩
      exact ⟨c, m, m1, by rw [← plc_cg n0 hc]; exact m2⟩
    · rintro ⟨c, m, m1, m2⟩
      exact ⟨c, m, m1, by rw [plc_cg n0 hc]; exact m2⟩
  cases e1 : inB v k with
  | true => exact (go.mp e1).symm
  | false =>
    cases e2 : inB v2 k with
    | false => rfl
    | true =>
      have := go.mpr e2
      rw [e1] at this
      cases this
end
section
/-! the whole: what has to be so of a text, its checksum -/
theorem beg_cg {n : Int} {C D : Int → Int} (n0 : 0 ≤ n) (hc : tEq n C D) : beg n C = beg n D := by
  unfold beg
  rw [forI_cg (f := bgs n C) (g := bgs n D) n0 (fun j v j0 jn => by
    unfold bgs
    rw [lon_cg hc j0 jn])]
def namv (n : Int) (C : Int → Int) : Bool := decide (0 < n ∧ sb (C 0) = 0 ∧ lon n C 0 = n)
def fltv (n : Int) (C : Int → Int) : Int := if findI (fun j => !so (C j) (cond (decide (j = 0)) 11 12)) 0 n < n then findI (fun j => !so (C j) (cond (decide (j = 0)) 11 12)) 0 n else if n = 0 then 0 else -1
theorem namv_cg {n : Int} {C D : Int → Int} (hc : tEq n C D) : namv n C = namv n D := by
  unfold namv
  by_cases q : 0 < n
  · rw [hc 0 (Int.le_refl 0) q, lon_cg hc (Int.le_refl 0) q]
  · have f1 : ¬(0 < n ∧ sb (C 0) = 0 ∧ lon n C 0 = n) := fun z => q z.1
    have f2 : ¬(0 < n ∧ sb (D 0) = 0 ∧ lon n D 0 = n) := fun z => q z.1
    rw [decide_eq_false f1, decide_eq_false f2]
theorem fltv_cg {n : Int} {C D : Int → Int} (n0 : 0 ≤ n) (hc : tEq n C D) : fltv n C = fltv n D := by
  unfold fltv
  rw [findI_cg (P := fun j => !so (C j) (cond (decide (j = 0)) 11 12)) (Q := fun j => !so (D j) (cond (decide (j = 0)) 11 12)) n0 (fun j j0 jn => by show (!so (C j) _) = _; rw [hc j j0 jn])]
def bkV (n : Int) (C : Int → Int) (z : Int) : Prop := inr z ∧ ∃ h : Nat, bkM n C false h z ∧ bkc n C h = 0
def fwV (n : Int) (C : Int → Int) (z : Int) : Prop := ∃ B : Int → Int, fwP n C B ∧ z = B n
theorem bkV_u {n y z : Int} {C D : Int → Int} (n0 : 0 ≤ n) (hc : tEq n C D) (a : bkV n C y) (b : bkV n D z) : y = z := by
  obtain ⟨r1, h, a1, a2⟩ := a
  obtain ⟨r2, h2, b1, b2⟩ := b
  exact bkM_u n0 hc r1 r2 a1 a2 b1 b2
theorem fwV_u {n y z : Int} {C D : Int → Int} (n0 : 0 ≤ n) (hc : tEq n C D) (a : fwV n C y) (b : fwV n D z) : y = z := by
  obtain ⟨B, a1, a2⟩ := a
  obtain ⟨B2, b1, b2⟩ := b
  rw [a2, b2, fw_e hc n0 a1 b1]
theorem bkM_cg {n v : Int} {C D : Int → Int} {z : Bool} {h : Nat} (n0 : 0 ≤ n) (hc : tEq n C D) (a : bkM n C z h v) : bkM n D z h v := fun k k0 k9 => by
  rw [a k k0 k9]
  constructor
  · rintro ⟨c, m, m1, m2⟩
    exact ⟨c, m, m1, by rw [← bkc_cg n0 hc]; exact m2⟩
  · rintro ⟨c, m, m1, m2⟩
    exact ⟨c, m, m1, by rw [bkc_cg n0 hc]; exact m2⟩
theorem bkV_cg {n z : Int} {C D : Int → Int} (n0 : 0 ≤ n) (hc : tEq n C D) (a : bkV n C z) : bkV n D z := by
  obtain ⟨r1, h, a1, a2⟩ := a
  exact ⟨r1, h, bkM_cg n0 hc a1, by rw [← bkc_cg n0 hc]; exact a2⟩
theorem fwP_cg {n : Int} {C D B : Int → Int} (hc : tEq n C D) (a : fwP n C B) : fwP n D B := by
  refine ⟨a.1, fun e e1 en => ?_⟩
  obtain ⟨⟨g, g0, g1, g2, g3⟩, b⟩ := a.2 e e1 en
  exact ⟨⟨g, g0, g1, by rw [← lon_cg hc g0 (by omega)]; exact g2, g3⟩, fun g g0 g1 g2 => b g g0 g1 (by rw [lon_cg hc g0 (by omega)]; exact g2)⟩
theorem fwV_cg {n z : Int} {C D : Int → Int} (hc : tEq n C D) (a : fwV n C z) : fwV n D z := by
  obtain ⟨B, a1, a2⟩ := a
  exact ⟨B, fwP_cg hc a1, a2⟩
/-- what has to be so of a text -/
def SND (n : Int) (C : Int → Int) : Prop := (∀ z, bkV n C z → bAnd (beg n C) (-2) = z) ∧ (∀ z, fwV n C z → bcn (beg n C) = z) ∧ bcn (beg n C) = ptI n C (bAnd (beg n C) (-2)) 1 0 0 ∧ namv n C = decide (fltv n C = -1)
theorem SND_1 {n : Int} {C D : Int → Int} (n0 : 0 ≤ n) (hc : tEq n C D) (h : SND n C) : SND n D := by
  obtain ⟨a, b, c, d⟩ := h
  have e := beg_cg n0 hc
  refine ⟨fun z hz => by rw [← e]; exact a z (bkV_cg n0 hc.sm hz), fun z hz => by rw [← e]; exact b z (fwV_cg hc.sm hz), by rw [← e, ← ptI_cg hc]; exact c, by rw [← namv_cg hc, ← fltv_cg n0 hc]; exact d⟩
theorem SND_cg {n : Int} {C D : Int → Int} (n0 : 0 ≤ n) (hc : tEq n C D) : SND n C ↔ SND n D := ⟨SND_1 n0 hc, SND_1 n0 hc.sm⟩
/-- .. out of what the class finds -/
theorem SND_t {n y z : Int} {C : Int → Int} (n0 : 0 ≤ n) (hy : bkV n C y) (hz : fwV n C z) (a : bAnd (beg n C) (-2) = y) (b : bcn (beg n C) = z) (c : bcn (beg n C) = ptI n C (bAnd (beg n C) (-2)) 1 0 0) (d : namv n C = decide (fltv n C = -1)) : SND n C :=
  ⟨fun u hu => a.trans (bkV_u n0 tEq.rf hy hu), fun u hu => b.trans (fwV_u n0 tEq.rf hz hu), c, d⟩
/-- what the reference counts is what the class counts -/
theorem pcs_v {n z : Int} {C : Int → Int} (n0 : 0 ≤ n) (n9 : n ≤ 30) (hz : ∃ a : Nat, plN n C a ∧ z = (a : Int)) : bcn (beg n C) = z := by
  obtain ⟨a, ha, hz⟩ := hz
  obtain ⟨b, hb, hy⟩ := bcn_beg (C := C) n0 n9
  rw [hy, hz, plN_u n0 tEq.rf hb ha]
theorem cts_v {n z : Int} {C : Int → Int} (n0 : 0 ≤ n) (n9 : n ≤ 30) (hr : inr z) (hz : ∃ a : Nat, plN n C a ∧ plM n C a z) : bAnd (beg n C) (-2) = z := by
  obtain ⟨a, ha, hm⟩ := hz
  obtain ⟨b, hb, hy⟩ := begM (C := C) n0 n9
  exact plM_u n0 tEq.rf (bAnd_in _ _) hr hb hy ha hm
/-! every sign has just one kind -/
theorem forF_e {σ : Type} {f : Int → σ → σ} : ∀ (k : Nat) (i : Int) (v : σ), forF f (k + 1) i v = f (i + (k : Int)) (forF f k i v)
  | 0, i, v => by
    show f i v = f (i + ((0 : Nat) : Int)) v
    rw [show i + ((0 : Nat) : Int) = i by omega]
  | k + 1, i, v => by
    show forF f (k + 1) (i + 1) (f i v) = f (i + ((k + 1 : Nat) : Int)) (forF f k (i + 1) (f i v))
    rw [forF_e k (i + 1) (f i v), show i + 1 + (k : Int) = i + ((k + 1 : Nat) : Int) by omega]
theorem forI_e1 {σ : Type} {f : Int → σ → σ} {i n : Int} {v : σ} (h : i ≤ n) : forI f i (n + 1) v = f n (forI f i n v) := by
  unfold forI
  rw [show (n + 1 - i).toNat = (n - i).toNat + 1 by omega, forF_e, show i + (((n - i).toNat : Nat) : Int) = n by omega]
def ksum (F : Int → Int) : Int := forI (fun k v => v + F k) 0 31 0
theorem ksum_a {F : Int → Int} {a : Int} (a0 : 0 ≤ a) (a9 : a ≤ 30) : ksum (fun k => F k + (if a = k then 1 else 0)) = ksum F + 1 := by
  have h := forI_rel (f := fun k v => v + (F k + (if a = k then 1 else 0))) (g := fun k v => v + F k) (R := fun i v w => v = w + (if a < i then 1 else 0)) (i := 0) (n := 31) (by decide) (v := (0 : Int)) (w := (0 : Int)) (by show (0 : Int) = 0 + (if a < 0 then 1 else 0); rw [if_neg (by omega)]; rfl) (fun i v w i0 i9 e => by
    have e : v = w + (if a < i then 1 else 0) := e
    show v + (F i + (if a = i then 1 else 0)) = w + F i + (if a < i + 1 then 1 else 0)
    rw [e]
    by_cases c : a = i
    · rw [if_pos c, if_neg (by omega), if_pos (by omega)]
      omega
    · rw [if_neg c]
      by_cases c2 : a < i
      · rw [if_pos c2, if_pos (by omega)]
        omega
      · rw [if_neg c2, if_neg (by omega)]
        omega)
  have h : ksum (fun k => F k + (if a = k then 1 else 0)) = ksum F + (if a < 31 then 1 else 0) := h
  rw [h, if_pos (by omega)]
theorem kn_sum : ∀ N : Nat, ksum (fun k => forI (cst (fun c => decide (kin c = k))) 0 (N : Int) 0) = (N : Int)
  | 0 => by
    have e : (fun k : Int => forI (cst (fun c => decide (kin c = k))) 0 ((0 : Nat) : Int) 0) = fun _ => (0 : Int) := funext fun k => forI_e (Int.le_refl 0)
    rw [e]
    decide +kernel
  | N + 1 => by
    have e : (fun k : Int => forI (cst (fun c => decide (kin c = k))) 0 ((N + 1 : Nat) : Int) 0) = fun k => forI (cst (fun c => decide (kin c = k))) 0 (N : Int) 0 + (if kin (N : Int) = k then 1 else 0) := funext fun k => by
      rw [show ((N + 1 : Nat) : Int) = (N : Int) + 1 by omega, forI_e1 (by omega)]
      by_cases c : kin (N : Int) = k
      · rw [cst_t (decide_eq_true c), if_pos c]
      · rw [cst_f (decide_eq_false c), if_neg c, Int.add_zero]
    rw [e, ksum_a (kin_in _).1 (kin_in _).2, kn_sum N]
    omega
theorem kn_all : ksum (fun k => forI (cst (fun c => decide (kin c = k))) 0 (255 + 1) 0) = 256 := kn_sum 256
/-! the checksum -/
def dmx (d : Int64) (v : Int) : Int64 := d * 31 + (zI v).toInt64
def dgc (C : Int → Int) (j : Int) (d : Int64) : Int64 := dmx (dmx d (C j)) (kin (C j))
def dgC (n : Int) (C : Int → Int) (d : Int64) : Int64 := forI (dgc C) 0 n d
def dgq (n : Int) (C : Int → Int) (q : Int) (d : Int64) : Int64 := dmx d (forI (cst (fun j => so (C j) q)) 0 n 0)
def dgQ (n : Int) (C : Int → Int) (d : Int64) : Int64 := forI (dgq n C) 0 14 d
noncomputable def fwz (n : Int) (C : Int → Int) : Int := Classical.epsilon (fun z => fwV n C z)
theorem fwz_v {n z : Int} {C : Int → Int} (n0 : 0 ≤ n) (h : fwV n C z) : fwz n C = z := fwV_u n0 tEq.rf (Classical.epsilon_spec (p := fun z => fwV n C z) ⟨z, h⟩) h
noncomputable def dgT (n : Int) (C : Int → Int) (d : Int64) : Int64 := dmx (dmx (dmx (dmx (dgQ n C (dgC n C (dmx d n))) (fltv n C)) (bcn (beg n C))) (bAnd (beg n C) (-2))) (fwz n C)
theorem dgT_cg {n : Int} {C D : Int → Int} {d : Int64} (n0 : 0 ≤ n) (hc : tEq n C D) : dgT n C d = dgT n D d := by
  have e1 : ∀ x, dgC n C x = dgC n D x := fun x => forI_cg n0 (fun j v j0 jn => by unfold dgc; rw [hc j j0 jn])
  have e2 : ∀ x, dgQ n C x = dgQ n D x := fun x => forI_cg (by decide) (fun q v q0 q9 => by unfold dgq; rw [cst_cg (P := fun j => so (C j) q) (Q := fun j => so (D j) q) n0 (fun j j0 jn => by show so (C j) q = so (D j) q; rw [hc j j0 jn])])
  have e3 : fwz n C = fwz n D := congrArg Classical.epsilon (funext fun z => propext ⟨fwV_cg hc, fwV_cg hc.sm⟩)
  unfold dgT
  rw [e1, e2, e3, fltv_cg n0 hc, beg_cg n0 hc]
/-- one more for whom it is so -/
theorem all_s {P : Int → Prop} {o p q : Bool} {i : Int} (i0 : 0 ≤ i) (ho : o = true ↔ ∀ j, 0 ≤ j → j < i → P j) (hq : q = true ↔ P i) (hp : p = o) : ((p && q) = true ↔ ∀ j, 0 ≤ j → j < i + 1 → P j) := by
  rw [Bool.and_eq_true, hp, ho, hq]
  constructor
  · rintro ⟨a, b⟩ j j0 j1
    rcases (by omega : j < i ∨ j = i) with c | c
    · exact a j j0 c
    · rw [c]; exact b
  · intro a
    exact ⟨fun j j0 j1 => a j j0 (by omega), a i i0 (by omega)⟩
end
