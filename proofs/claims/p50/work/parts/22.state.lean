/-! frames of worlds; a text, the class, the reference: what stands where -/
def fr (P : Nat → Prop) (w0 w : wd) : Prop := ∀ q, ¬ P q → w0 q ≠ none → w q = w0 q
theorem fr.rf {P : Nat → Prop} {w : wd} : fr P w w := fun _ _ _ => rfl
theorem fr.tr {P : Nat → Prop} {w0 w1 w2 : wd} (h1 : fr P w0 w1) (h2 : fr P w1 w2) : fr P w0 w2 := fun q hq hn => by
  have e := h1 q hq hn
  rw [h2 q hq (by rw [e]; exact hn), e]
theorem fr.mono {P Q : Nat → Prop} {w0 w : wd} (hf : fr P w0 w) (h : ∀ q, P q → Q q) : fr Q w0 w := fun q hq hn => hf q (fun hp => hq (h q hp)) hn
theorem fr.set {P : Nat → Prop} {w0 w : wd} {a : Nat} {e : va_E} (h : fr P w0 w) (ha : P a) : fr P w0 (ws1 w a e) := fun q hq hn => by
  rw [ws1_n (show q ≠ a from fun z => hq (by rw [z]; exact ha))]
  exact h q hq hn
theorem fr.new {P : Nat → Prop} {w0 w : wd} {q : Nat} {e : va_E} (h : fr P w0 w) (hn : w q = none) : fr P w0 (ws1 w q e) := fun x hx h0 => by
  have e1 := h x hx h0
  by_cases z : x = q
  · subst z
    rw [hn] at e1
    exact absurd e1.symm h0
  · rw [ws1_n z]
    exact e1
theorem fr.at {P : Nat → Prop} {w0 w : wd} {q : Nat} {e : va_E} (h : fr P w0 w) (hq : ¬ P q) (hw : w0 q = some e) : w q = some e := by
  rw [h q hq (by rw [hw]; intro z; cases z)]
  exact hw
def wsub (w1 w : wd) : Prop := ∀ a e, w1 a = some e → w a = some e
theorem wsub.rf {w : wd} : wsub w w := fun _ _ h => h
theorem wsub.new {w : wd} {q : Nat} {e : va_E} (hn : w q = none) : wsub w (ws1 w q e) := fun a x h => by
  rw [ws1_n (fun z => by subst z; rw [hn] at h; cases h)]
  exact h
theorem wsub.tr {w1 w2 w3 : wd} (h1 : wsub w1 w2) (h2 : wsub w2 w3) : wsub w1 w3 := fun a e h => h2 a e (h1 a e h)
def eTag (e : va_E) : Nat := match e with
  | .inl (_, n, .inl _) => 2 * n
  | .inl (_, n, .inr _) => 2 * n + 1
  | .inr (ci, _) => 1000000 + ci
theorem tne {w : wd} {a b : Nat} {e e2 : va_E} (x y : Nat) (h1 : w a = some e) (h2 : w b = some e2) (t1 : eTag e = x) (t2 : eTag e2 = y) (h : x ≠ y) : a ≠ b := wne h1 h2 (fun z => h (by rw [← t1, ← t2, z]))
section GS
variable {b : gBt} {l : Launch} {s0 : State} {G : gK} {cc : ByteArray} {own : String} {nL : Nat} {rm : Room} {k n pc : Nat} {L : List (Nat × Value)} {st : List Value} {w : wd}
theorem x_fg {w1 : wd} (h : wsub w1 w) (kk : gX b s0 G k n pc L st w1) : gX b s0 G k n pc L st w :=
  fun H locs ls hP hS hl => kk H locs ls (fun a e ha => hP a e (h a e ha)) hS hl
end GS
/-! a text -/
def tP (a r bb : Nat) : Nat → Prop := fun q => q = a ∨ q = r ∨ q = bb
theorem tX.d {G : gK} {w : wd} {a r bb : Nat} {n : Int} {C B : Int → Int} (h : tX G w a r bb n C B) : a ≠ r ∧ a ≠ bb ∧ r ≠ bb := by
  obtain ⟨h1, h2, h3, -⟩ := h
  exact ⟨tne 1000002 60 h1 h2 rfl rfl (by decide), tne 1000002 62 h1 h3 rfl rfl (by decide), tne 60 62 h2 h3 rfl rfl (by decide)⟩
theorem uF_sg {C : Int → Int} {p s y : Int} (e : bB y = bB s) : uF (sgF C) p (bB y) = sgF (uF C p s) := by
  funext j
  show (if j = p then bB y else bB (C j)) = bB (if j = p then s else C j)
  by_cases h : j = p
  · rw [if_pos h, if_pos h]
    exact e
  · rw [if_neg h, if_neg h]
theorem tX.row {G : gK} {w : wd} {a r bb : Nat} {n : Int} {C B : Int → Int} {p s y : Int} (h : tX G w a r bb n C B) (hs : 0 ≤ s ∧ s ≤ 255) (e : bB y = bB s) : tX G (ws1 w r (eB G 30 (uF (sgF C) p (bB y)))) a r bb n (uF C p s) B := by
  obtain ⟨d1, d2, d3⟩ := h.d
  obtain ⟨h1, h2, h3, h4, h5, h6⟩ := h
  refine ⟨by rw [ws1_n d1]; exact h1, ?_, by rw [ws1_n d3.symm]; exact h3, h4, h5, ?_⟩
  · rw [ws1_s, uF_sg e]
  · intro j
    unfold uF
    split
    · exact hs
    · exact h6 j
theorem tX.many {G : gK} {w : wd} {a r bb : Nat} {n n' : Int} {C B : Int → Int} (h : tX G w a r bb n C B) (h0 : 0 ≤ n') (h9 : n' ≤ 30) : tX G (ws1 w a (eO 2 [rv r, iv n', rv bb])) a r bb n' C B := by
  obtain ⟨d1, d2, d3⟩ := h.d
  obtain ⟨h1, h2, h3, h4, h5, h6⟩ := h
  exact ⟨ws1_s, by rw [ws1_n d1.symm]; exact h2, by rw [ws1_n d2.symm]; exact h3, h0, h9, h6⟩
theorem tX.by {G : gK} {w : wd} {a r bb : Nat} {n : Int} {C B B' : Int → Int} (h : tX G w a r bb n C B) : tX G (ws1 w bb (eI G 31 B')) a r bb n C B' := by
  obtain ⟨d1, d2, d3⟩ := h.d
  obtain ⟨h1, h2, h3, h4, h5, h6⟩ := h
  exact ⟨by rw [ws1_n d2]; exact h1, by rw [ws1_n d3]; exact h2, ws1_s, h4, h5, h6⟩
theorem tX.fr {G : gK} {w w' : wd} {P : Nat → Prop} {a r bb : Nat} {n : Int} {C B : Int → Int} (h : tX G w a r bb n C B) (hf : fr P w w') (h1 : ¬ P a) (h2 : ¬ P r) (h3 : ¬ P bb) : tX G w' a r bb n C B :=
  ⟨hf.at h1 h.1, hf.at h2 h.2.1, hf.at h3 h.2.2.1, h.2.2.2⟩
theorem tP1 {a r bb : Nat} : tP a r bb a := Or.inl rfl
theorem tP2 {a r bb : Nat} : tP a r bb r := Or.inr (Or.inl rfl)
theorem tP3 {a r bb : Nat} : tP a r bb bb := Or.inr (Or.inr rfl)
/-- a text changed, nothing else -/
def tW (G : gK) (w : wd) (a r bb : Nat) (w' : wd) : Prop := ∃ n' C' B', tX G w' a r bb n' C' B' ∧ fr (tP a r bb) w w'
/-- its own row of ints changed, nothing else -/
def tB (G : gK) (w : wd) (a r bb : Nat) (n : Int) (C : Int → Int) (w' : wd) : Prop := ∃ B', tX G w' a r bb n C B' ∧ fr (tP a r bb) w w'
/-! the class: the object, its row of texts, text by text its object, row, ints -/
abbrev kA : Type := Nat × Nat × (Int → Nat) × (Int → Nat) × (Int → Nat)
abbrev kM : Type := (Int → Int) × (Int → Int → Int) × Int × Int × Int
def kP (K : kA) : Nat → Prop := fun q => q = K.1 ∨ q = K.2.1 ∨ ∃ i : Int, 0 ≤ i ∧ i < 3 ∧ tP (K.2.2.1 i) (K.2.2.2.1 i) (K.2.2.2.2 i) q
def kS (G : gK) (w : wd) (K : kA) (M : kM) : Prop :=
  w K.1 = some (eO 3 [rv K.2.1, iv M.2.2.1, iv M.2.2.2.1, iv M.2.2.2.2]) ∧ (∃ f, w K.2.1 = some (eT G 3 f) ∧ ∀ i : Int, 0 ≤ i → i < 3 → f i = some (K.2.2.1 i)) ∧ (∀ i : Int, 0 ≤ i → i < 3 → ∃ B, tX G w (K.2.2.1 i) (K.2.2.2.1 i) (K.2.2.2.2 i) (M.1 i) (M.2.1 i) B) ∧ (∀ i j : Int, 0 ≤ i → i < 3 → 0 ≤ j → j < 3 → i ≠ j → K.2.2.1 i ≠ K.2.2.1 j ∧ K.2.2.2.1 i ≠ K.2.2.2.1 j ∧ K.2.2.2.2 i ≠ K.2.2.2.2 j)
theorem kP_t {K : kA} {i : Int} (h0 : 0 ≤ i) (h3 : i < 3) : ∀ q, tP (K.2.2.1 i) (K.2.2.2.1 i) (K.2.2.2.2 i) q → kP K q := fun _ h => Or.inr (Or.inr ⟨i, h0, h3, h⟩)
theorem kS.put {G : gK} {w w' : wd} {K : kA} {M : kM} {i : Int} {n' : Int} {C' B' : Int → Int} (h : kS G w K M) (h0 : 0 ≤ i) (h3 : i < 3) (ht : tX G w' (K.2.2.1 i) (K.2.2.2.1 i) (K.2.2.2.2 i) n' C' B') (hf : fr (tP (K.2.2.1 i) (K.2.2.2.1 i) (K.2.2.2.2 i)) w w') : kS G w' K (fun j => if j = i then n' else M.1 j, fun j => if j = i then C' else M.2.1 j, M.2.2) := by
  obtain ⟨a1, ⟨f, a2, a3⟩, a4, a5⟩ := h
  obtain ⟨Bi, hti⟩ := a4 i h0 h3
  refine ⟨hf.at ?_ a1, ⟨f, hf.at ?_ a2, a3⟩, ?_, a5⟩
  · rintro (z | z | z)
    · exact tne 1000003 1000002 a1 hti.1 rfl rfl (by decide) z
    · exact tne 1000003 60 a1 hti.2.1 rfl rfl (by decide) z
    · exact tne 1000003 62 a1 hti.2.2.1 rfl rfl (by decide) z
  · rintro (z | z | z)
    · exact tne 7 1000002 a2 hti.1 rfl rfl (by decide) z
    · exact tne 7 60 a2 hti.2.1 rfl rfl (by decide) z
    · exact tne 7 62 a2 hti.2.2.1 rfl rfl (by decide) z
  · intro j j0 j3
    by_cases e : j = i
    · subst e
      exact ⟨B', by show tX G w' _ _ _ (if j = j then n' else M.1 j) (if j = j then C' else M.2.1 j) B'; rw [if_pos rfl, if_pos rfl]; exact ht⟩
    · obtain ⟨Bj, htj⟩ := a4 j j0 j3
      obtain ⟨e1, e2, e3⟩ := a5 j i j0 j3 h0 h3 e
      refine ⟨Bj, ?_⟩
      show tX G w' _ _ _ (if j = i then n' else M.1 j) (if j = i then C' else M.2.1 j) Bj
      rw [if_neg e, if_neg e]
      refine htj.fr hf ?_ ?_ ?_
      · rintro (z | z | z)
        · exact e1 z
        · exact tne 1000002 60 htj.1 hti.2.1 rfl rfl (by decide) z
        · exact tne 1000002 62 htj.1 hti.2.2.1 rfl rfl (by decide) z
      · rintro (z | z | z)
        · exact tne 60 1000002 htj.2.1 hti.1 rfl rfl (by decide) z
        · exact e2 z
        · exact tne 60 62 htj.2.1 hti.2.2.1 rfl rfl (by decide) z
      · rintro (z | z | z)
        · exact tne 62 1000002 htj.2.2.1 hti.1 rfl rfl (by decide) z
        · exact tne 62 60 htj.2.2.1 hti.2.1 rfl rfl (by decide) z
        · exact e3 z
theorem kS.cnt {G : gK} {w : wd} {K : kA} {M : kM} (h : kS G w K M) (x y z : Int) : kS G (ws1 w K.1 (eO 3 [rv K.2.1, iv x, iv y, iv z])) K (M.1, M.2.1, x, y, z) := by
  obtain ⟨a1, ⟨f, a2, a3⟩, a4, a5⟩ := h
  refine ⟨ws1_s, ⟨f, by rw [ws1_n (tne 7 1000003 a2 a1 rfl rfl (by decide))]; exact a2, a3⟩, ?_, a5⟩
  intro i h0 h3
  obtain ⟨B, ht⟩ := a4 i h0 h3
  exact ⟨B, by rw [ws1_n (tne 1000002 1000003 ht.1 a1 rfl rfl (by decide))]; exact ht.1, by rw [ws1_n (tne 60 1000003 ht.2.1 a1 rfl rfl (by decide))]; exact ht.2.1, by rw [ws1_n (tne 62 1000003 ht.2.2.1 a1 rfl rfl (by decide))]; exact ht.2.2.1, ht.2.2.2⟩
theorem kS.fr {G : gK} {w w' : wd} {P : Nat → Prop} {K : kA} {M : kM} (h : kS G w K M) (hf : fr P w w') (hd : ∀ q, kP K q → ¬ P q) : kS G w' K M := by
  obtain ⟨a1, ⟨f, a2, a3⟩, a4, a5⟩ := h
  refine ⟨hf.at (hd _ (Or.inl rfl)) a1, ⟨f, hf.at (hd _ (Or.inr (Or.inl rfl))) a2, a3⟩, fun i h0 h3 => ?_, a5⟩
  obtain ⟨B, ht⟩ := a4 i h0 h3
  exact ⟨B, ht.fr hf (hd _ (kP_t h0 h3 _ tP1)) (hd _ (kP_t h0 h3 _ tP2)) (hd _ (kP_t h0 h3 _ tP3))⟩
theorem kS.some {G : gK} {w : wd} {K : kA} {M : kM} (h : kS G w K M) : ∀ q, kP K q → w q ≠ none := by
  obtain ⟨a1, ⟨f, a2, a3⟩, a4, a5⟩ := h
  rintro q (z | z | ⟨i, h0, h3, z⟩)
  · rw [z, a1]; intro h; cases h
  · rw [z, a2]; intro h; cases h
  · obtain ⟨B, ht⟩ := a4 i h0 h3
    rcases z with z | z | z
    · rw [z, ht.1]; intro h; cases h
    · rw [z, ht.2.1]; intro h; cases h
    · rw [z, ht.2.2.1]; intro h; cases h
/-- the class's own state is another one (knocks alike), nothing else is -/
def kW (G : gK) (w : wd) (K : kA) (M : kM) (w' : wd) : Prop := ∃ M' : kM, kS G w' K M' ∧ M'.2.2.2.2 = M.2.2.2.2 ∧ fr (kP K) w w'
theorem kW.rf {G : gK} {w : wd} {K : kA} {M : kM} (h : kS G w K M) : kW G w K M w := ⟨M, h, rfl, fr.rf⟩
theorem kW.tr {G : gK} {w w1 w2 : wd} {K : kA} {M M1 : kM} (hf : fr (kP K) w w1) (hk : M1.2.2.2.2 = M.2.2.2.2) (h : kW G w1 K M1 w2) : kW G w K M w2 := by
  obtain ⟨M', h1, h2, h3⟩ := h
  exact ⟨M', h1, h2.trans hk, hf.tr h3⟩
theorem kS.putW {G : gK} {w w' : wd} {K : kA} {M : kM} {i : Int} (h : kS G w K M) (h0 : 0 ≤ i) (h3 : i < 3) (ht : tW G w (K.2.2.1 i) (K.2.2.2.1 i) (K.2.2.2.2 i) w') : kW G w K M w' := by
  obtain ⟨n', C', B', h1, h2⟩ := ht
  exact ⟨_, h.put h0 h3 h1 h2, rfl, h2.mono (kP_t h0 h3)⟩
section GT
variable {b : gBt} {l : Launch} {s0 : State} {G : gK} {cc : ByteArray} {own : String} {nL : Nat} {rm : Room} {k n pc : Nat} {L : List (Nat × Value)} {st : List Value} {w : wd}
/-- the top of the stack as a number in range -/
theorem x_nz {x : Int} (kk : ∀ z : Int, inr z → zI x = zI z → gX b s0 G k n pc L (iv z :: st) w) : gX b s0 G k n pc L (iv x :: st) w := by
  have e : zI x = zI (zI x).toInt := (zI_of (zI x)).symm
  have h := kk (zI x).toInt ⟨Int32.le_toInt _, by have := Int32.toInt_lt (zI x); omega⟩ e
  show gX b s0 G k n pc L (.int (zI x) :: st) w
  rw [e]
  exact h
def bUshr (a b : Int) : Int := (((zI a).toUInt32 >>> ((zI b).toUInt32 &&& Int32.toUInt32 31)).toInt32).toInt
theorem x_iushr (Z : gAm b l s0 G cc own nL rm) {x y : Int} (d : decode cc pc = .ok (.iushr, 1)) (kk : gX b s0 G k n (pc + 1) L (iv (bUshr x y) :: st) w) : gX b s0 G k n pc L (iv y :: iv x :: st) w := by
  obtain ⟨hx, hb, -⟩ := Z
  exact fun H locs ls hP hS hl => lv_iushr hx hb d (v := zI (bUshr x y)) (zI_of _).symm (kk H locs ls hP hS hl)
theorem x_ineg (Z : gAm b l s0 G cc own nL rm) {x : Int} (d : decode cc pc = .ok (.ineg, 1)) (kk : gX b s0 G k n (pc + 1) L (iv (-x) :: st) w) : gX b s0 G k n pc L (iv x :: st) w := by
  obtain ⟨hx, hb, -⟩ := Z
  exact fun H locs ls hP hS hl => lv_ineg hx hb d (by rw [zI_neg]; exact kk H locs ls hP hS hl)
theorem x_ldcw (Z : gAm b l s0 G cc own nL rm) {i : Nat} {v : Int32} {z : Int} (hc : Cond.constant own i v ∈ gT) (hz : v = zI z) (d : decode cc pc = .ok (.ldc_w i, 3)) (kk : gX b s0 G k n (pc + 3) L (iv z :: st) w) : gX b s0 G k n pc L st w := by
  have hc' := Z.word hc
  obtain ⟨hx, hb, ho, -⟩ := Z
  subst hz
  exact fun H locs ls hP hS hl => lv_ldcw hx hb ho hc' d (kk H locs ls hP hS hl)
theorem x_mmin (Z : gAm b l s0 G cc own nL rm) {idx : Nat} {x y : Int} (h1 : Cond.methodLink own idx Lib.Math.min.name ∈ gT) (h2 : Cond.static Lib.Math.min.name ∈ gT) (h3 : Cond.initialized "java/lang/Math" ∈ gT) (h4 : Cond.code Lib.Math.min.name Lib.Math.min.code 2 (some .int) ∈ gT) (d : decode cc pc = .ok (.invokestatic idx, 3)) (hx0 : inr x) (hy0 : inr y) (hfr : 1 ≤ rm.frames) (hlo : (st.map fun v => v.category).sum + 13 ≤ rm.locals) (hk : k ≤ rm.cells) (hn : n ≤ rm.slots) (kk : gX b s0 G k n (pc + 3) L (iv (if y < x then y else x) :: st) w) : gX b s0 G k n pc L (iv y :: iv x :: st) w := by
  have w1 := Z.word h1
  have w2 := Z.word h2
  have w3 := Z.word h3
  have w4 := Z.word h4
  obtain ⟨hx, hb, ho, -, -, -, -, hml, hR, -⟩ := Z
  have e : iv (if y < x then y else x) = .int (if zI y < zI x then zI y else zI x) := by
    by_cases h : y < x
    · rw [if_pos h, if_pos ((zI_lt hy0.1 hy0.2 hx0.1 hx0.2).mpr h)]
    · rw [if_neg h, if_neg (fun q => h ((zI_lt hy0.1 hy0.2 hx0.1 hx0.2).mp q))]
  rw [e] at kk
  exact fun H locs ls hP hS hl => va_mmin hx hb (hml.trans (hl.1.trans hml).symm) ho w1 w2 w3 w4 (by rw [hR]; exact hfr) (by rw [hR]; exact hlo) (by rw [hR]; exact hk) (by rw [hR]; exact hn) d (kk H locs ls hP hS hl)
theorem x_mmax (Z : gAm b l s0 G cc own nL rm) {idx : Nat} {x y : Int} (h1 : Cond.methodLink own idx Lib.Math.max.name ∈ gT) (h2 : Cond.static Lib.Math.max.name ∈ gT) (h3 : Cond.initialized "java/lang/Math" ∈ gT) (h4 : Cond.code Lib.Math.max.name Lib.Math.max.code 2 (some .int) ∈ gT) (d : decode cc pc = .ok (.invokestatic idx, 3)) (hx0 : inr x) (hy0 : inr y) (hfr : 1 ≤ rm.frames) (hlo : (st.map fun v => v.category).sum + 13 ≤ rm.locals) (hk : k ≤ rm.cells) (hn : n ≤ rm.slots) (kk : gX b s0 G k n (pc + 3) L (iv (if x < y then y else x) :: st) w) : gX b s0 G k n pc L (iv y :: iv x :: st) w := by
  have w1 := Z.word h1
  have w2 := Z.word h2
  have w3 := Z.word h3
  have w4 := Z.word h4
  obtain ⟨hx, hb, ho, -, -, -, -, hml, hR, -⟩ := Z
  have e : iv (if x < y then y else x) = .int (if zI x < zI y then zI y else zI x) := by
    by_cases h : x < y
    · rw [if_pos h, if_pos ((zI_lt hx0.1 hx0.2 hy0.1 hy0.2).mpr h)]
    · rw [if_neg h, if_neg (fun q => h ((zI_lt hx0.1 hx0.2 hy0.1 hy0.2).mp q))]
  rw [e] at kk
  exact fun H locs ls hP hS hl => va_mmax hx hb (hml.trans (hl.1.trans hml).symm) ho w1 w2 w3 w4 (by rw [hR]; exact hfr) (by rw [hR]; exact hlo) (by rw [hR]; exact hk) (by rw [hR]; exact hn) d (kk H locs ls hP hS hl)
end GT
/-- Integer.bitCount, as the JDK counts -/
def bcn (x : Int) : Int :=
  let a := x - bAnd (bUshr x 1) 1431655765
  let b := bAnd a 858993459 + bAnd (bUshr a 2) 858993459
  let c := bAnd (b + bUshr b 4) 252645135
  let d := c + bUshr c 8
  let e := d + bUshr d 16
  bAnd e 63
theorem bcn_in (x : Int) : inr (bcn x) := bAnd_in _ _
theorem bDiv2 {n : Int} (h0 : 0 ≤ n) (h9 : n ≤ 30) : bDiv n 2 = n / 2 := by
  have h : ∀ k : Fin 31, bDiv ((k.val : Nat) : Int) 2 = ((k.val : Nat) : Int) / 2 := by decide +kernel
  have e := h ⟨n.toNat, by omega⟩
  have e2 : ((n.toNat : Nat) : Int) = n := Int.toNat_of_nonneg h0
  rw [e2] at e
  exact e
theorem bB_in (x : Int) : -128 ≤ bB x ∧ bB x ≤ 127 := by
  unfold bB
  rw [Int8.toInt_toInt32]
  exact ⟨Int8.le_toInt _, by have := Int8.toInt_lt (zI x).toInt8; omega⟩
def tSelf (a r bb a2 r2 bb2 : Nat) : Prop := (a2 = a ∧ r2 = r ∧ bb2 = bb) ∨ (¬ tP a r bb a2 ∧ ¬ tP a r bb r2 ∧ ¬ tP a r bb bb2)
theorem tSelf.oth {G : gK} {w w1 : wd} {a r bb a2 r2 bb2 : Nat} {n n2 : Int} {C B C2 B2 : Int → Int} (hs : tSelf a r bb a2 r2 bb2) (ht : tX G w1 a r bb n C B) (ht2 : tX G w a2 r2 bb2 n2 C2 B2) (hf : fr (tP a r bb) w w1) : ∃ n3 D, w1 a2 = some (eO 2 [rv r2, iv n3, rv bb2]) ∧ w1 r2 = some (eB G 30 (sgF D)) ∧ ∀ j, 0 ≤ D j ∧ D j ≤ 255 := by
  rcases hs with ⟨rfl, rfl, rfl⟩ | ⟨h1, h2, h3⟩
  · exact ⟨n, C, ht.1, ht.2.1, ht.2.2.2.2.2⟩
  · exact ⟨n2, C2, hf.at h1 ht2.1, hf.at h2 ht2.2.1, ht2.2.2.2.2.2⟩
theorem kS.self {G : gK} {w : wd} {K : kA} {M : kM} (h : kS G w K M) {i j : Int} (i0 : 0 ≤ i) (i3 : i < 3) (j0 : 0 ≤ j) (j3 : j < 3) : tSelf (K.2.2.1 i) (K.2.2.2.1 i) (K.2.2.2.2 i) (K.2.2.1 j) (K.2.2.2.1 j) (K.2.2.2.2 j) := by
  obtain ⟨-, -, a4, a5⟩ := h
  by_cases e : j = i
  · subst e
    exact Or.inl ⟨rfl, rfl, rfl⟩
  · obtain ⟨Bi, hti⟩ := a4 i i0 i3
    obtain ⟨Bj, htj⟩ := a4 j j0 j3
    obtain ⟨e1, e2, e3⟩ := a5 j i j0 j3 i0 i3 e
    refine Or.inr ⟨?_, ?_, ?_⟩
    · rintro (z | z | z)
      · exact e1 z
      · exact tne 1000002 60 htj.1 hti.2.1 rfl rfl (by decide) z
      · exact tne 1000002 62 htj.1 hti.2.2.1 rfl rfl (by decide) z
    · rintro (z | z | z)
      · exact tne 60 1000002 htj.2.1 hti.1 rfl rfl (by decide) z
      · exact e2 z
      · exact tne 60 62 htj.2.1 hti.2.2.1 rfl rfl (by decide) z
    · rintro (z | z | z)
      · exact tne 62 1000002 htj.2.2.1 hti.1 rfl rfl (by decide) z
      · exact tne 62 60 htj.2.2.1 hti.2.1 rfl rfl (by decide) z
      · exact e3 z
/-- the places at which a piece of the row begins, step by step -/
def bgs (n : Int) (C : Int → Int) (j : Int) (z : Int × Int) : Int × Int := if j = z.1 then (z.1 + lon n C j, bOr z.2 (bShl 1 j)) else z
theorem bgs_t {n : Int} {C : Int → Int} {j e v : Int} (h : j = e) : bgs n C j (e, v) = (e + lon n C j, bOr v (bShl 1 j)) := if_pos h
theorem bgs_f {n : Int} {C : Int → Int} {j e v : Int} (h : j ≠ e) : bgs n C j (e, v) = (e, v) := if_neg h
def beg (n : Int) (C : Int → Int) : Int := (forI (bgs n C) 0 n (0, 0)).2
theorem forF_inv {σ : Type} {f : Int → σ → σ} {P : σ → Prop} (hf : ∀ i v, P v → P (f i v)) : ∀ (k : Nat) (i : Int) (v : σ), P v → P (forF f k i v)
  | 0, _, _, h => h
  | k + 1, i, v, h => forF_inv hf k (i + 1) (f i v) (hf i v h)
theorem forI_inv {σ : Type} {f : Int → σ → σ} {P : σ → Prop} (hf : ∀ i v, P v → P (f i v)) {i n : Int} {v : σ} (h : P v) : P (forI f i n v) := forF_inv hf _ _ _ h
theorem beg_in (n : Int) (C : Int → Int) : inr (beg n C) := forI_inv (P := fun z : Int × Int => inr z.2) (fun i z h => by
  unfold bgs
  split
  · exact bOr_in _ _
  · exact h) ⟨by decide, by decide⟩
theorem msk_in (P : Int → Bool) (n : Int) : inr (msk P n) := forI_inv (P := fun z : Int => inr z) (fun i z h => by
  unfold mstep
  split
  · exact bOr_in _ _
  · exact h) ⟨by decide, by decide⟩
/-- those that stay move up, step by step -/
def sfs (P : Int → Bool) (C : Int → Int) (j : Int) (z : Int × (Int → Int)) : Int × (Int → Int) := if P j = true then (z.1 + 1, uF z.2 z.1 (C j)) else z
theorem sfs_t {P : Int → Bool} {C : Int → Int} {j k : Int} {D : Int → Int} (h : P j = true) : sfs P C j (k, D) = (k + 1, uF D k (C j)) := if_pos h
theorem sfs_f {P : Int → Bool} {C : Int → Int} {j k : Int} {D : Int → Int} (h : P j = false) : sfs P C j (k, D) = (k, D) := if_neg (by rw [h]; decide)
def sft (P : Int → Bool) (n : Int) (C : Int → Int) : Int × (Int → Int) := forI (sfs P C) 0 n (0, C)
theorem sft0 {P : Int → Bool} {n : Int} {C : Int → Int} (h : ∀ j, P j = false) : sft P n C = (0, C) := forI_inv (P := fun z => z = (0, C)) (fun i z hz => by
  subst hz
  exact sfs_f (h i)) rfl
theorem inB0 (c : Int) : inB 0 c = false := by
  unfold inB
  have e : bShr 0 c = 0 := by
    unfold bShr
    rw [zI_0, Int32.zero_shiftRight]
    rfl
  rw [e]
  decide +kernel
