/-! what is asked of texts: pure words of both sides -/
theorem forI_cg {σ : Type} {f g : Int → σ → σ} {i n : Int} {v : σ} (h : i ≤ n) (hf : ∀ j v, i ≤ j → j < n → f j v = g j v) : forI f i n v = forI g i n v :=
  forI_rel (f := f) (g := g) (R := fun _ (a b : σ) => a = b) (w := v) h rfl (fun j v w h1 h2 h3 => by
    have h3 : v = w := h3
    subst h3
    exact hf j v h1 h2)
theorem cst_cg {P Q : Int → Bool} {i n v : Int} (h : i ≤ n) (hp : ∀ j, i ≤ j → j < n → P j = Q j) : forI (cst P) i n v = forI (cst Q) i n v := forI_cg h (fun j v h1 h2 => by
  unfold cst
  rw [hp j h1 h2])
theorem msk_cg {P Q : Int → Bool} {n : Int} (h : 0 ≤ n) (hp : ∀ j, 0 ≤ j → j < n → P j = Q j) : msk P n = msk Q n := forI_cg h (fun j v h1 h2 => by
  unfold mstep
  rw [hp j h1 h2])
theorem inB_ext {x y : Int} (hx : inr x) (hy : inr y) (h : ∀ k, 0 ≤ k → k < 32 → inB x k = inB y k) : x = y := by
  have e : zI x = zI y := b_ext (fun i hi => by
    have := h (i : Int) (by omega) (by omega)
    rw [inB_bt (by omega) (by omega), inB_bt (by omega) (by omega), Int.toNat_natCast] at this
    exact this)
  exact (zI_eq hx.1 hx.2 hy.1 hy.2).mp e
set_option maxRecDepth 100000 in
theorem inB_m2D : ∀ j : Fin 32, inB (-2) ((j.val : Nat) : Int) = decide (1 ≤ j.val) := by decide +kernel
theorem inB_m2 {j : Int} (j0 : 0 ≤ j) (j9 : j < 32) : inB (-2) j = decide (1 ≤ j) := by
  have h : inB (-2) ((j.toNat : Nat) : Int) = decide (1 ≤ j.toNat) := inB_m2D ⟨j.toNat, by omega⟩
  have e2 : ((j.toNat : Nat) : Int) = j := Int.toNat_of_nonneg j0
  rw [e2] at h
  rw [h]
  by_cases c : 1 ≤ j
  · rw [decide_eq_true c]; exact decide_eq_true (by omega)
  · rw [decide_eq_false c]; exact decide_eq_false (by omega)
/-- all places of a text, told as a set -/
theorem msk_all {P : Int → Bool} {n : Int} (n0 : 0 ≤ n) (n9 : n ≤ 30) (ha : inr (bShl 1 n - 1)) : msk P n = bShl 1 n - 1 ↔ ∀ j, 0 ≤ j → j < n → P j = true := by
  constructor
  · intro h j j0 jn
    have e := inB_msk (P := P) n0 (by omega) j0 (show j < 32 by omega)
    rw [h, inB_all n0 n9 j0 (by omega), decide_eq_true jn] at e
    exact e.symm
  · intro h
    exact inB_ext (msk_in P n) ha (fun k k0 k9 => by
      rw [inB_msk n0 (by omega) k0 k9, inB_all n0 n9 k0 k9]
      by_cases c : k < n
      · rw [decide_eq_true c, h k k0 c]; rfl
      · rw [decide_eq_false c]; rfl)
theorem alF_iff {C : Int → Int} {q n : Int} (n0 : 0 ≤ n) : findI (fun j => !so (C j) q) 0 n = n ↔ ∀ j, 0 ≤ j → j < n → so (C j) q = true := by
  have h1 := findI_all (P := fun j => !so (C j) q) (i := 0) (n := n) (e := n) n0 (Int.le_refl _)
  have h2 := (findI_in (P := fun j => !so (C j) q) (i := 0) (n := n) n0).2
  constructor
  · intro e1 j hj he
    have := h1.mp (by omega) j hj he
    simpa using this
  · intro e1
    have := h1.mpr (fun j hj he => by simpa using e1 j hj he)
    omega
theorem inB_1 {m c : Int} (h : bAnd (bShr m c) 1 ≠ 0) : inB m c = true := by
  rcases bAnd1 (bShr m c) with q | q
  · exact absurd q h
  · exact decide_eq_true q
theorem inB_0 {m c : Int} (h : bAnd (bShr m c) 1 = 0) : inB m c = false := decide_eq_false (by rw [h]; decide)
theorem inB_1' {m c : Int} (h : bAnd (bShr m c) 1 = 1) : inB m c = true := decide_eq_true h
theorem inB_0' {m c : Int} (h : bAnd (bShr m c) 1 ≠ 1) : inB m c = false := decide_eq_false h
/-! parted at told places -/
def ptF (n : Int) (C : Int → Int) (m : Int) : Nat → Int → Int → Int → Int
  | 0, _, _, p => p
  | k + 1, e, g, p => if n < e then p else if e = n ∨ inB m e = true then (if lon n C g < e - g then -1 else ptF n C m k (e + 1) e (p + 1)) else ptF n C m k (e + 1) g p
def ptI (n : Int) (C : Int → Int) (m e g p : Int) : Int := ptF n C m (n + 1 - e).toNat e g p
theorem ptI_e {n m e g p : Int} {C : Int → Int} (h : n < e) : ptI n C m e g p = p := by
  unfold ptI
  rw [show (n + 1 - e).toNat = 0 by omega]
  rfl
theorem ptI_s {n m e g p : Int} {C : Int → Int} (h : e ≤ n) : ptI n C m e g p = if e = n ∨ inB m e = true then (if lon n C g < e - g then -1 else ptI n C m (e + 1) e (p + 1)) else ptI n C m (e + 1) g p := by
  unfold ptI
  rw [show (n + 1 - e).toNat = (n + 1 - (e + 1)).toNat + 1 by omega]
  show (if n < e then p else _) = _
  rw [if_neg (by omega)]
theorem ptI_no {n m e g p : Int} {C : Int → Int} (h : e ≤ n) (c : e = n ∨ inB m e = true) (l : lon n C g < e - g) : ptI n C m e g p = -1 := by rw [ptI_s h, if_pos c, if_pos l]
theorem ptI_go {n m e g p : Int} {C : Int → Int} (h : e ≤ n) (c : e = n ∨ inB m e = true) (l : ¬ lon n C g < e - g) : ptI n C m e g p = ptI n C m (e + 1) e (p + 1) := by rw [ptI_s h, if_pos c, if_neg l]
theorem ptI_sk {n m e g p : Int} {C : Int → Int} (h : e < n) (c : inB m e = false) : ptI n C m e g p = ptI n C m (e + 1) g p := by
  rw [ptI_s (by omega), if_neg (fun q => by
    rcases q with q | q
    · omega
    · rw [c] at q
      cases q)]
theorem ptF_cg {n m : Int} {C D : Int → Int} (hc : tEq n C D) : ∀ (k : Nat) (e g p : Int), 0 ≤ g → g < e → ptF n C m k e g p = ptF n D m k e g p
  | 0, _, _, _, _, _ => rfl
  | k + 1, e, g, p, g0, ge => by
    show (if n < e then p else if e = n ∨ inB m e = true then (if lon n C g < e - g then -1 else ptF n C m k (e + 1) e (p + 1)) else ptF n C m k (e + 1) g p) = (if n < e then p else if e = n ∨ inB m e = true then (if lon n D g < e - g then -1 else ptF n D m k (e + 1) e (p + 1)) else ptF n D m k (e + 1) g p)
    by_cases q : n < e
    · rw [if_pos q, if_pos q]
    · rw [if_neg q, if_neg q, lon_cg hc g0 (by omega), ptF_cg hc k (e + 1) e (p + 1) (by omega) (by omega), ptF_cg hc k (e + 1) g p g0 (by omega)]
theorem ptI_cg {n m : Int} {C D : Int → Int} (hc : tEq n C D) : ptI n C m 1 0 0 = ptI n D m 1 0 0 := ptF_cg hc _ 1 0 0 (by decide) (by decide)
theorem ptF_in {n m : Int} {C : Int → Int} : ∀ (k : Nat) (e g p : Int), 0 ≤ p → -1 ≤ ptF n C m k e g p ∧ ptF n C m k e g p ≤ p + (k : Int)
  | 0, _, _, p, h => ⟨by show -1 ≤ p; omega, by show p ≤ p + ((0 : Nat) : Int); omega⟩
  | k + 1, e, g, p, h => by
    have h1 := ptF_in (n := n) (m := m) (C := C) k (e + 1) e (p + 1) (by omega)
    have h2 := ptF_in (n := n) (m := m) (C := C) k (e + 1) g p h
    have e1 : ptF n C m (k + 1) e g p = (if n < e then p else if e = n ∨ inB m e = true then (if lon n C g < e - g then -1 else ptF n C m k (e + 1) e (p + 1)) else ptF n C m k (e + 1) g p) := rfl
    rw [e1]
    split
    · omega
    · split
      · split <;> omega
      · omega
theorem pt_in {n m : Int} {C : Int → Int} (n0 : 0 ≤ n) : -1 ≤ ptI n C m 1 0 0 ∧ ptI n C m 1 0 0 ≤ n := by
  have h := ptF_in (n := n) (m := m) (C := C) (n + 1 - 1).toNat 1 0 0 (Int.le_refl 0)
  unfold ptI
  omega
/-- a set of places at which a text of n signs can be cut -/
def cutS (n m : Int) : Prop := 0 ≤ m ∧ ∀ k, 0 ≤ k → k < 31 → inB m k = true → 1 ≤ k ∧ k < n
theorem inB_31 {m : Int} (m0 : 0 ≤ m) (m9 : m ≤ 2147483647) : inB m 31 = false := by
  obtain ⟨M, rfl⟩ : ∃ M : Nat, m = (M : Int) := ⟨m.toNat, by omega⟩
  rw [inB_bt (by decide) (by decide), zI_nat]
  show (BitVec.ofNat 32 M).getLsbD 31 = false
  rw [BitVec.getLsbD_ofNat, Nat.testBit_eq_decide_div_mod_eq, show M / 2 ^ 31 = 0 from Nat.div_eq_of_lt (by omega)]
  rfl
theorem cutS_iff {n m : Int} (n0 : 0 ≤ n) (n9 : n ≤ 30) (m0 : 0 ≤ m) (m9 : m ≤ 2147483647) : bAnd m (bXor (bAnd (bShl 1 n - 1) (-2)) (-1)) = 0 ↔ cutS n m := by
  have hb : ∀ k, 0 ≤ k → k < 32 → inB (bAnd m (bXor (bAnd (bShl 1 n - 1) (-2)) (-1))) k = (inB m k && !(decide (k < n) && decide (1 ≤ k))) := fun k k0 k9 => by
    rw [inB_and k0 k9, inB_not k0 k9, inB_and k0 k9, inB_all n0 n9 k0 k9, inB_m2 k0 k9]
  constructor
  · intro h
    refine ⟨m0, fun k k0 k9 hk => ?_⟩
    have e := hb k k0 (by omega)
    rw [h, inB0, hk] at e
    by_cases c : k < n
    · by_cases c2 : 1 ≤ k
      · exact ⟨c2, c⟩
      · rw [decide_eq_true c, decide_eq_false c2] at e
        cases e
    · rw [decide_eq_false c] at e
      cases e
  · rintro ⟨-, h⟩
    refine inB_ext (bAnd_in _ _) ⟨by decide, by decide⟩ (fun k k0 k9 => ?_)
    rw [hb k k0 k9, inB0]
    cases hk : inB m k with
    | false => rfl
    | true =>
      rcases (by omega : k < 31 ∨ k = 31) with q | q
      · have := h k k0 q hk
        rw [decide_eq_true this.1, decide_eq_true this.2]
        rfl
      · rw [q, inB_31 m0 m9] at hk
        cases hk
theorem inB_z {m : Int} (hm : inr m) : inB m 0 = true ↔ bAnd m 1 = 1 := by
  have e : bShr m 0 = m := by
    unfold bShr
    rw [show zI m >>> (zI 0 &&& 31) = zI m by rw [zI_0, show ((0 : Int32) &&& 31) = 0 by decide +kernel]; exact Int32.shiftRight_zero]
    exact zI_toInt hm.1 hm.2
  unfold inB
  rw [e, decide_eq_true_eq]
/-- a set of places that is told out, as far as the places below i show -/
def outS (n m i : Int) : Prop := m < 0 ∨ inB m 0 = true ∨ ∃ k, 1 ≤ k ∧ k < i ∧ inB m k = true ∧ n ≤ k
theorem outS_1 {n m : Int} : outS n m 1 ↔ (m < 0 ∨ inB m 0 = true) := by
  constructor
  · rintro (h | h | ⟨k, h1, h2, _⟩)
    · exact Or.inl h
    · exact Or.inr h
    · omega
  · rintro (h | h)
    · exact Or.inl h
    · exact Or.inr (Or.inl h)
theorem outS_t {n m i : Int} {o : Bool} (i1 : 1 ≤ i) (hb : inB m i = true) (hn : n ≤ i) : ((o || true) = true ↔ outS n m (i + 1)) := ⟨fun _ => Or.inr (Or.inr ⟨i, i1, by omega, hb, hn⟩), fun _ => Bool.or_true o⟩
theorem outS_f {n m i : Int} {o : Bool} (ho : o = true ↔ outS n m i) (h : inB m i = false ∨ i < n) : ((o || false) = true ↔ outS n m (i + 1)) := by
  rw [Bool.or_false, ho]
  constructor
  · rintro (h | h | ⟨k, h1, h2, h3⟩)
    · exact Or.inl h
    · exact Or.inr (Or.inl h)
    · exact Or.inr (Or.inr ⟨k, h1, by omega, h3⟩)
  · rintro (q | q | ⟨k, h1, h2, h3, h4⟩)
    · exact Or.inl q
    · exact Or.inr (Or.inl q)
    · rcases (by omega : k < i ∨ k = i) with c | c
      · exact Or.inr (Or.inr ⟨k, h1, c, h3, h4⟩)
      · rw [c] at h3 h4
        rcases h with h | h
        · rw [h] at h3
          cases h3
        · omega
theorem outS_iff {n m : Int} : outS n m 31 ↔ ¬ cutS n m := by
  constructor
  · rintro (h | h | ⟨k, h1, h2, h3, h4⟩) ⟨c1, c2⟩
    · omega
    · have := c2 0 (Int.le_refl 0) (by decide) h
      omega
    · have := c2 k (by omega) h2 h3
      omega
  · intro h
    refine Classical.byContradiction fun q => h ⟨?_, fun k k0 k9 hk => ?_⟩
    · rcases (by omega : 0 ≤ m ∨ m < 0) with c | c
      · exact c
      · exact absurd (Or.inl c) q
    · rcases (by omega : k = 0 ∨ (1 ≤ k ∧ k < n) ∨ (1 ≤ k ∧ n ≤ k)) with c | c | c
      · rw [c] at hk
        exact absurd (Or.inr (Or.inl hk)) q
      · exact c
      · exact absurd (Or.inr (Or.inr ⟨k, c.1, k9, hk, c.2⟩)) q
/-! the fewest pieces -/
def fwP (n : Int) (C : Int → Int) (B : Int → Int) : Prop := B 0 = 0 ∧ ∀ e, 1 ≤ e → e ≤ n → (∃ g, 0 ≤ g ∧ g < e ∧ e - g ≤ lon n C g ∧ B e = B g + 1) ∧ ∀ g, 0 ≤ g → g < e → e - g ≤ lon n C g → B e ≤ B g + 1
theorem fw_u {n : Int} {C D B B2 : Int → Int} (hc : tEq n C D) (h : fwP n C B) (h2 : fwP n D B2) : ∀ k : Nat, ∀ e, 0 ≤ e → e ≤ (k : Int) → e ≤ n → B e = B2 e
  | 0, e, e0, ek, _ => by
    rw [show e = 0 by omega, h.1, h2.1]
  | k + 1, e, e0, ek, en => by
    rcases (by omega : e ≤ (k : Int) ∨ e = (k : Int) + 1) with q | q
    · exact fw_u hc h h2 k e e0 q en
    · obtain ⟨⟨g, g0, g1, g2, g3⟩, a1⟩ := h.2 e (by omega) en
      obtain ⟨⟨p, p0, p1, p2, p3⟩, b1⟩ := h2.2 e (by omega) en
      have x1 := b1 g g0 g1 (by rw [← lon_cg hc g0 (by omega)]; exact g2)
      have x2 := a1 p p0 p1 (by rw [lon_cg hc p0 (by omega)]; exact p2)
      have y1 := fw_u hc h h2 k g g0 (by omega) (by omega)
      have y2 := fw_u hc h h2 k p p0 (by omega) (by omega)
      omega
theorem fw_e {n : Int} {C D B B2 : Int → Int} (hc : tEq n C D) (n0 : 0 ≤ n) (h : fwP n C B) (h2 : fwP n D B2) : B n = B2 n := fw_u hc h h2 n.toNat n n0 (by omega) (Int.le_refl n)
/-- the class's table while pieces from i on are still wanting -/
def fwC (n : Int) (C B : Int → Int) (i : Int) : Prop := (∀ e, 0 ≤ e → e ≤ n → 0 ≤ B e ∧ B e ≤ e ∧ (B e = e ∨ ∃ g, 0 ≤ g ∧ g < e ∧ g < i ∧ e - g ≤ lon n C g ∧ B e = B g + 1)) ∧ ∀ e g, 0 ≤ g → g < e → e ≤ n → g < i → e - g ≤ lon n C g → B e ≤ B g + 1
theorem fwC_0 {n : Int} {C B : Int → Int} (h : ∀ e, 0 ≤ e → e ≤ n → B e = e) : fwC n C B 0 := ⟨fun e e0 en => by rw [h e e0 en]; exact ⟨e0, Int.le_refl e, Or.inl rfl⟩, fun e g g0 _ _ gi => by omega⟩
theorem fwC_n {n : Int} {C B : Int → Int} (n0 : 0 ≤ n) (h : fwC n C B n) : fwP n C B := by
  obtain ⟨h1, h2⟩ := h
  have hd : ∀ k : Nat, (k : Int) ≤ n → True := fun _ _ => trivial
  refine ⟨by have := h1 0 (by omega) n0; omega, fun e e1 en => ⟨?_, fun g g0 ge gl => h2 e g g0 ge en (by omega) gl⟩⟩
  obtain ⟨a1, a2, a3 | ⟨g, g0, g1, _, g3, g4⟩⟩ := h1 e (by omega) en
  · have hl := lon_in (n := n) (C := C) (p := e - 1) (by omega)
    have h3 := h2 e (e - 1) (by omega) (by omega) en (by omega) (by omega)
    have h4 := h1 (e - 1) (by omega) (by omega)
    exact ⟨e - 1, by omega, by omega, by omega, by omega⟩
  · exact ⟨g, g0, g1, g3, g4⟩
/-- .. while the piece from i goes on, up to e0 -/
def fwD (n : Int) (C B : Int → Int) (i e0 : Int) : Prop := (∀ e, 0 ≤ e → e ≤ n → 0 ≤ B e ∧ B e ≤ e ∧ (B e = e ∨ ∃ g, 0 ≤ g ∧ g < e ∧ g < i + 1 ∧ e - g ≤ lon n C g ∧ B e = B g + 1)) ∧ ∀ e g, 0 ≤ g → g < e → e ≤ n → (g < i ∨ (g = i ∧ e < e0)) → e - g ≤ lon n C g → B e ≤ B g + 1
theorem fwD_0 {n i : Int} {C B : Int → Int} (h : fwC n C B i) : fwD n C B i (i + 1) := ⟨fun e e0 en => by
  obtain ⟨a1, a2, a3 | ⟨g, g0, g1, g2, g3, g4⟩⟩ := h.1 e e0 en
  · exact ⟨a1, a2, Or.inl a3⟩
  · exact ⟨a1, a2, Or.inr ⟨g, g0, g1, by omega, g3, g4⟩⟩, fun e g g0 ge en gi gl => h.2 e g g0 ge en (by omega) gl⟩
theorem fwD_e {n i e0 : Int} {C B : Int → Int} (h : fwD n C B i e0) (he : i + lon n C i < e0) : fwC n C B (i + 1) := ⟨h.1, fun e g g0 ge en gi gl => h.2 e g g0 ge en (by
  rcases (by omega : g < i ∨ g = i) with q | q
  · exact Or.inl q
  · rw [q] at gl
    exact Or.inr ⟨q, by omega⟩) gl⟩
theorem fwD_s {n i e0 : Int} {C B : Int → Int} (h : fwD n C B i e0) (i0 : 0 ≤ i) (ie : i < e0) (en : e0 ≤ n) (hl : e0 - i ≤ lon n C i) : fwD n C (uF B e0 (if B i + 1 < B e0 then B i + 1 else B e0)) i (e0 + 1) := by
  have hbi := h.1 i i0 (by omega)
  have hbe := h.1 e0 (by omega) en
  have hn : ∀ g, g < e0 → uF B e0 (if B i + 1 < B e0 then B i + 1 else B e0) g = B g := fun g hg => uF_n (by omega)
  have hv : uF B e0 (if B i + 1 < B e0 then B i + 1 else B e0) e0 = if B i + 1 < B e0 then B i + 1 else B e0 := uF_s
  have hle : (if B i + 1 < B e0 then B i + 1 else B e0) ≤ B e0 := by split <;> omega
  have hle2 : (if B i + 1 < B e0 then B i + 1 else B e0) ≤ B i + 1 := by split <;> omega
  refine ⟨fun e e1 e2 => ?_, fun e g g0 ge en2 gi gl => ?_⟩
  · by_cases q : e = e0
    · subst q
      rw [hv]
      by_cases c : B i + 1 < B e
      · rw [if_pos c]
        exact ⟨by omega, by omega, Or.inr ⟨i, i0, ie, by omega, hl, by rw [uF_n (show i ≠ e by omega)]⟩⟩
      · rw [if_neg c]
        obtain ⟨a1, a2, a3 | ⟨g, g0, g1, g2, g3, g4⟩⟩ := hbe
        · exact ⟨a1, a2, Or.inl a3⟩
        · exact ⟨a1, a2, Or.inr ⟨g, g0, g1, g2, g3, by rw [uF_n (show g ≠ e by omega)]; exact g4⟩⟩
    · rw [uF_n q]
      obtain ⟨a1, a2, a3 | ⟨g, g0, g1, g2, g3, g4⟩⟩ := h.1 e e1 e2
      · exact ⟨a1, a2, Or.inl a3⟩
      · exact ⟨a1, a2, Or.inr ⟨g, g0, g1, g2, g3, by rw [hn g (by omega)]; exact g4⟩⟩
  · rw [hn g (by omega)]
    by_cases q : e = e0
    · subst q
      rw [hv]
      rcases (by omega : g < i ∨ g = i) with c | c
      · have := h.2 e g g0 ge en2 (Or.inl c) gl
        omega
      · rw [c]
        exact hle2
    · rw [uF_n q]
      exact h.2 e g g0 ge en2 (by omega) gl
/-- the reference's table: all ends below e0 are done -/
def fwO (n : Int) (C B : Int → Int) (e0 : Int) : Prop := B 0 = 0 ∧ ∀ e, 1 ≤ e → e < e0 → 0 ≤ B e ∧ B e ≤ e ∧ (∃ g, 0 ≤ g ∧ g < e ∧ e - g ≤ lon n C g ∧ B e = B g + 1) ∧ ∀ g, 0 ≤ g → g < e → e - g ≤ lon n C g → B e ≤ B g + 1
/-- .. each end by all last pieces -/
def fwR (n : Int) (C B : Int → Int) (e0 g0 : Int) : Prop := fwO n C B e0 ∧ 0 ≤ B e0 ∧ B e0 ≤ 31 ∧ (B e0 = 31 ∨ ∃ g, 0 ≤ g ∧ g < g0 ∧ e0 - g ≤ lon n C g ∧ B e0 = B g + 1) ∧ ∀ g, 0 ≤ g → g < g0 → e0 - g ≤ lon n C g → B e0 ≤ B g + 1
theorem fwO_u {n e0 x : Int} {C B : Int → Int} (h1 : 1 ≤ e0) (h : fwO n C B e0) : fwO n C (uF B e0 x) e0 := by
  have hn : ∀ g, g < e0 → uF B e0 x g = B g := fun g hg => uF_n (by omega)
  refine ⟨by rw [hn 0 (by omega)]; exact h.1, fun e e1 e2 => ?_⟩
  obtain ⟨a1, a2, ⟨g, g0, g1, g2, g3⟩, a4⟩ := h.2 e e1 e2
  rw [hn e e2]
  exact ⟨a1, a2, ⟨g, g0, g1, g2, by rw [hn g (by omega)]; exact g3⟩, fun g g0 g1 g2 => by rw [hn g (by omega)]; exact a4 g g0 g1 g2⟩
theorem fwR_0 {n e0 : Int} {C B : Int → Int} (h1 : 1 ≤ e0) (h : fwO n C B e0) : fwR n C (uF B e0 31) e0 0 := ⟨fwO_u h1 h, by rw [uF_s]; decide, by rw [uF_s]; decide, Or.inl uF_s, fun g g0 g1 _ => by omega⟩
theorem fwR_k {n e0 g0 : Int} {C B : Int → Int} (h : fwR n C B e0 g0) (hl : ¬ e0 - g0 ≤ lon n C g0) : fwR n C B e0 (g0 + 1) := by
  obtain ⟨a1, a2, a3, a4, a5⟩ := h
  refine ⟨a1, a2, a3, ?_, fun g h0 h1 h2 => ?_⟩
  · rcases a4 with a4 | ⟨g, b0, b1, b2, b3⟩
    · exact Or.inl a4
    · exact Or.inr ⟨g, b0, by omega, b2, b3⟩
  · rcases (by omega : g < g0 ∨ g = g0) with q | q
    · exact a5 g h0 q h2
    · rw [q] at h2
      exact absurd h2 hl
theorem fwO_r {n e0 g : Int} {C B : Int → Int} (h : fwO n C B e0) (g0 : 0 ≤ g) (ge : g < e0) : 0 ≤ B g ∧ B g ≤ g := by
  rcases (by omega : g = 0 ∨ 1 ≤ g) with q | q
  · rw [q, h.1]
    omega
  · have := h.2 g q ge
    exact ⟨this.1, this.2.1⟩
theorem fwR_s {n e0 g0 : Int} {C B : Int → Int} (h1 : 1 ≤ e0) (e9 : e0 ≤ 30) (h : fwR n C B e0 g0) (h0 : 0 ≤ g0) (hg : g0 < e0) (hl : e0 - g0 ≤ lon n C g0) : fwR n C (uF B e0 (if B g0 + 1 < B e0 then B g0 + 1 else B e0)) e0 (g0 + 1) := by
  obtain ⟨a1, a2, a3, a4, a5⟩ := h
  have hr := fwO_r a1 h0 hg
  have hn : ∀ g, g < e0 → uF B e0 (if B g0 + 1 < B e0 then B g0 + 1 else B e0) g = B g := fun g hg => uF_n (by omega)
  have hv : uF B e0 (if B g0 + 1 < B e0 then B g0 + 1 else B e0) e0 = if B g0 + 1 < B e0 then B g0 + 1 else B e0 := uF_s
  have hle : (if B g0 + 1 < B e0 then B g0 + 1 else B e0) ≤ B e0 := by split <;> omega
  have hle2 : (if B g0 + 1 < B e0 then B g0 + 1 else B e0) ≤ B g0 + 1 := by split <;> omega
  have hge : 0 ≤ (if B g0 + 1 < B e0 then B g0 + 1 else B e0) := by split <;> omega
  refine ⟨fwO_u h1 a1, by rw [hv]; exact hge, by rw [hv]; omega, ?_, fun g b0 b1 b2 => ?_⟩
  · rw [hv]
    by_cases c : B g0 + 1 < B e0
    · rw [if_pos c]
      exact Or.inr ⟨g0, h0, by omega, hl, by rw [uF_n (show g0 ≠ e0 by omega)]⟩
    · rw [if_neg c]
      rcases a4 with a4 | ⟨g, b0, b1, b2, b3⟩
      · exact Or.inl a4
      · exact Or.inr ⟨g, b0, by omega, b2, by rw [uF_n (show g ≠ e0 by omega)]; exact b3⟩
  · rw [hv, hn g (by omega)]
    rcases (by omega : g < g0 ∨ g = g0) with q | q
    · have := a5 g b0 q b2
      omega
    · rw [q]
      exact hle2
theorem fwR_e {n e0 : Int} {C B : Int → Int} (h1 : 1 ≤ e0) (en : e0 ≤ n) (e9 : e0 ≤ 30) (h : fwR n C B e0 e0) : fwO n C B (e0 + 1) := by
  obtain ⟨a1, a2, a3, a4, a5⟩ := h
  have hl := lon_in (n := n) (C := C) (p := e0 - 1) (by omega)
  have h5 := a5 (e0 - 1) (by omega) (by omega) (by omega)
  have hr := fwO_r a1 (g := e0 - 1) (by omega) (by omega)
  refine ⟨a1.1, fun e b1 b2 => ?_⟩
  rcases (by omega : e < e0 ∨ e = e0) with q | q
  · exact a1.2 e b1 q
  · rw [q]
    refine ⟨a2, by omega, ?_, a5⟩
    rcases a4 with a4 | a4
    · omega
    · exact a4
theorem fwO_n {n : Int} {C B : Int → Int} (h : fwO n C B (n + 1)) : fwP n C B := ⟨h.1, fun e e1 en => ⟨(h.2 e e1 (by omega)).2.2.1, (h.2 e e1 (by omega)).2.2.2⟩⟩
/-! the back row -/
def bk (n : Int) (C : Int → Int) (e : Int) : Int := findI (fun p => decide (e - p ≤ lon n C p)) 0 e
theorem bk_in {n e : Int} {C : Int → Int} (e1 : 1 ≤ e) (en : e ≤ n) : 0 ≤ bk n C e ∧ bk n C e < e ∧ e - bk n C e ≤ lon n C (bk n C e) := by
  have h := findI_in (P := fun p => decide (e - p ≤ lon n C p)) (i := 0) (n := e) (by omega)
  have hl := lon_in (n := n) (C := C) (p := e - 1) (by omega)
  have hlt : bk n C e < e := by
    rcases (by omega : bk n C e < e ∨ e - 1 < bk n C e) with q | q
    · exact q
    · have := of_decide_eq_false (findI_no (P := fun p => decide (e - p ≤ lon n C p)) (i := 0) (n := e) (j := e - 1) (by omega) q)
      omega
  exact ⟨h.1, hlt, of_decide_eq_true (findI_yes (P := fun p => decide (e - p ≤ lon n C p)) (i := 0) (n := e) (by omega) hlt)⟩
theorem bk_cg {n e : Int} {C D : Int → Int} (hc : tEq n C D) (e1 : 0 ≤ e) (en : e ≤ n) : bk n C e = bk n D e := findI_cg e1 (fun j j0 je => by
  show decide (e - j ≤ lon n C j) = decide (e - j ≤ lon n D j)
  rw [lon_cg hc j0 (by omega)])
def bkc (n : Int) (C : Int → Int) : Nat → Int
  | 0 => n
  | m + 1 => if 0 < bkc n C m then bk n C (bkc n C m) else bkc n C m
theorem bkc_s {n : Int} {C : Int → Int} {m : Nat} (h : 0 < bkc n C m) : bkc n C (m + 1) = bk n C (bkc n C m) := if_pos h
theorem bkc_in {n : Int} {C : Int → Int} (n0 : 0 ≤ n) : ∀ m : Nat, 0 ≤ bkc n C m ∧ bkc n C m ≤ n
  | 0 => ⟨n0, Int.le_refl n⟩
  | m + 1 => by
    have e := bkc_in (C := C) n0 m
    show 0 ≤ (if 0 < bkc n C m then bk n C (bkc n C m) else bkc n C m) ∧ (if 0 < bkc n C m then bk n C (bkc n C m) else bkc n C m) ≤ n
    by_cases q : 0 < bkc n C m
    · have := bk_in (n := n) (C := C) (e := bkc n C m) (by omega) e.2
      rw [if_pos q]
      omega
    · rw [if_neg q]
      exact e
theorem bkc_cg {n : Int} {C D : Int → Int} (n0 : 0 ≤ n) (hc : tEq n C D) : ∀ m : Nat, bkc n C m = bkc n D m
  | 0 => rfl
  | m + 1 => by
    have e := bkc_cg n0 hc m
    have hi := bkc_in (C := D) n0 m
    show (if 0 < bkc n C m then bk n C (bkc n C m) else bkc n C m) = (if 0 < bkc n D m then bk n D (bkc n D m) else bkc n D m)
    rw [e, bk_cg hc hi.1 hi.2]
/-- the first h beginnings of the back row, as a set; 0 may be left out -/
def bkM (n : Int) (C : Int → Int) (z : Bool) (h : Nat) (v : Int) : Prop := ∀ k, 0 ≤ k → k < 32 → (inB v k = true ↔ ((z = true ∨ k ≠ 0) ∧ ∃ m : Nat, m < h ∧ bkc n C (m + 1) = k))
theorem bkM_0 {n : Int} {C : Int → Int} {z : Bool} : bkM n C z 0 0 := fun k k0 k9 => ⟨(fun h => by { rw [inB0] at h; cases h }), fun ⟨_, m, hm, _⟩ => absurd hm (Nat.not_lt_zero m)⟩
theorem bkM_s {n v b : Int} {C : Int → Int} {z : Bool} {h : Nat} (hv : bkM n C z h v) (b0 : 0 ≤ b) (b9 : b < 32) (hz : z = true ∨ b ≠ 0) (e : bkc n C (h + 1) = b) : bkM n C z (h + 1) (bOr v (bShl 1 b)) := fun k k0 k9 => by
  rw [inB_or k0 k9, inB_sh b0 b9 k0 k9, Bool.or_eq_true, decide_eq_true_eq, hv k k0 k9]
  constructor
  · rintro (⟨c, m, m1, m2⟩ | c)
    · exact ⟨c, m, by omega, m2⟩
    · exact ⟨by rw [← c]; exact hz, h, by omega, e.trans c⟩
  · rintro ⟨c, m, m1, m2⟩
    rcases (by omega : m < h ∨ m = h) with q | q
    · exact Or.inl ⟨c, m, q, m2⟩
    · right
      rw [q, e] at m2
      exact m2
theorem bkM_k {n v : Int} {C : Int → Int} {h : Nat} (hv : bkM n C false h v) (e : bkc n C (h + 1) = 0) : bkM n C false (h + 1) (bOr v 0) := fun k k0 k9 => by
  rw [inB_or k0 k9, inB0, Bool.or_false, hv k k0 k9]
  constructor
  · rintro ⟨c, m, m1, m2⟩
    exact ⟨c, m, by omega, m2⟩
  · rintro ⟨c, m, m1, m2⟩
    rcases (by omega : m < h ∨ m = h) with q | q
    · exact ⟨c, m, q, m2⟩
    · rw [q, e] at m2
      rcases c with c | c
      · cases c
      · exact absurd m2.symm c
theorem bkM_c {n v : Int} {C : Int → Int} {h : Nat} (hv : bkM n C true h v) : bkM n C false h (bAnd v (-2)) := fun k k0 k9 => by
  rw [inB_and k0 k9, inB_m2 k0 k9, Bool.and_eq_true, decide_eq_true_eq, hv k k0 k9]
  constructor
  · rintro ⟨⟨_, m, m1, m2⟩, c⟩
    exact ⟨Or.inr (by omega), m, m1, m2⟩
  · rintro ⟨c, m, m1, m2⟩
    refine ⟨⟨Or.inl rfl, m, m1, m2⟩, ?_⟩
    rcases c with c | c
    · cases c
    · omega
/-- two sets of the same back row -/
theorem bkM_u {n v v2 : Int} {C D : Int → Int} {h h2 : Nat} (n0 : 0 ≤ n) (hc : tEq n C D) (r1 : inr v) (r2 : inr v2) (a : bkM n C false h v) (ea : bkc n C h = 0) (b : bkM n D false h2 v2) (eb : bkc n D h2 = 0) : v = v2 := by
  have fix : ∀ (E : Int → Int) (p : Nat), bkc n E p = 0 → ∀ q : Nat, bkc n E (p + q) = 0 := fun E p hp q => by
    induction q with
    | zero => exact hp
    | succ q ih =>
      show (if 0 < bkc n E (p + q) then bk n E (bkc n E (p + q)) else bkc n E (p + q)) = 0
      rw [ih, if_neg (by decide)]
  refine inB_ext r1 r2 (fun k k0 k9 => ?_)
  have go : inB v k = true ↔ inB v2 k = true := by
    rw [a k k0 k9, b k k0 k9]
    constructor
    · rintro ⟨c, m, m1, m2⟩
      refine ⟨c, m, ?_, by rw [← bkc_cg n0 hc]; exact m2⟩
      rcases Nat.lt_or_ge m h2 with q | q
      · exact q
      · have e := fix D h2 eb (m + 1 - h2)
        rw [show h2 + (m + 1 - h2) = m + 1 by omega, ← bkc_cg n0 hc, m2] at e
        rcases c with c | c
        · cases c
        · exact absurd e c
    · rintro ⟨c, m, m1, m2⟩
      refine ⟨c, m, ?_, by rw [bkc_cg n0 hc]; exact m2⟩
      rcases Nat.lt_or_ge m h with q | q
      · exact q
      · have e := fix C h ea (m + 1 - h)
        rw [show h + (m + 1 - h) = m + 1 by omega, bkc_cg n0 hc, m2] at e
        rcases c with c | c
        · cases c
        · exact absurd e c
  cases e1 : inB v k with
  | true => exact (go.mp e1).symm
  | false =>
    cases e2 : inB v2 k with
    | false => rfl
    | true =>
      have := go.mpr e2
      rw [e1] at this
      cases this
/-! how many pieces, and where they are cut -/
/-- h pieces make the text -/
def plN (n : Int) (C : Int → Int) (h : Nat) : Prop := n ≤ plc n C h ∧ ∀ a : Nat, a < h → plc n C a < n
theorem plN_u {n : Int} {C D : Int → Int} {h h2 : Nat} (n0 : 0 ≤ n) (hc : tEq n C D) (a : plN n C h) (b : plN n D h2) : h = h2 := by
  rcases (by omega : h = h2 ∨ h < h2 ∨ h2 < h) with q | q | q
  · exact q
  · have := b.2 h q
    rw [← plc_cg n0 hc] at this
    have := a.1
    omega
  · have := a.2 h2 q
    rw [plc_cg n0 hc] at this
    have := b.1
    omega
theorem beg_pc {n : Int} {C : Int → Int} (n0 : 0 ≤ n) (n9 : n ≤ 30) : ∃ (h X : Nat), plN n C h ∧ beg n C = (X : Int) ∧ X < 2 ^ n.toNat ∧ pcN X = h := by
  have hz := forI_ind (f := bgs n C) (P := fun i (z : Int × Int) => ∃ (h X : Nat), z.1 = plc n C h ∧ i ≤ z.1 ∧ (∀ a : Nat, a < h → plc n C a < i) ∧ z.2 = (X : Int) ∧ X < 2 ^ i.toNat ∧ pcN X = h) (i := 0) (n := n) n0 (v := ((0 : Int), (0 : Int))) ⟨0, 0, rfl, Int.le_refl _, fun a ha => absurd ha (Nat.not_lt_zero a), rfl, by decide, pcN_0⟩ (fun i z h1 h2 h3 => by
    obtain ⟨e, v⟩ := z
    obtain ⟨h, X, e1, e2, e3, e4, e5, e6⟩ := h3
    have e1 : e = plc n C h := e1
    have e2 : i ≤ e := e2
    have e4 : v = (X : Int) := e4
    have es : (i + 1).toNat = i.toNat + 1 := by omega
    have ei : ((i.toNat : Nat) : Int) = i := Int.toNat_of_nonneg h1
    have hpow : 2 ^ (i + 1).toNat = 2 ^ i.toNat + 2 ^ i.toNat := by rw [es, Nat.pow_succ]; omega
    by_cases q : i = e
    · rw [bgs_t q]
      have hl := lon_in (n := n) (C := C) (p := e) (by omega)
      refine ⟨h + 1, X + 2 ^ i.toNat, ?_, ?_, fun a ha => ?_, ?_, by omega, ?_⟩
      · show e + lon n C i = _
        rw [plc_s (by omega), ← e1, q]
      · show i + 1 ≤ e + lon n C i
        rw [q]
        omega
      · rcases (by omega : a < h ∨ a = h) with c | c
        · have := e3 a c
          omega
        · rw [c, ← e1]
          omega
      · show bOr v (bShl 1 i) = _
        rw [e4, ← bOr_s (by omega) e5, ei]
      · rw [pcN_s (by omega) e5, e6]
    · rw [bgs_f q]
      exact ⟨h, X, e1, by show i + 1 ≤ e; omega, fun a ha => by have := e3 a ha; omega, e4, by omega, e6⟩)
  obtain ⟨h, X, e1, e2, e3, e4, e5, e6⟩ := hz
  exact ⟨h, X, ⟨by rw [← e1]; exact e2, e3⟩, e4, e5, e6⟩
/-- how many pieces the class counts -/
theorem bcn_beg {n : Int} {C : Int → Int} (n0 : 0 ≤ n) (n9 : n ≤ 30) : ∃ h : Nat, plN n C h ∧ bcn (beg n C) = (h : Int) := by
  obtain ⟨h, X, a, e, hx, hp⟩ := beg_pc (C := C) n0 n9
  have hp2 : 2 ^ n.toNat ≤ 2 ^ 30 := Nat.pow_le_pow_right (by decide) (by omega)
  exact ⟨h, a, by rw [e, bcn_n (by omega), hp]⟩
theorem plN_le {n : Int} {C : Int → Int} {h : Nat} (n0 : 0 ≤ n) (a : plN n C h) : (h : Int) ≤ n := by
  have hb : ∀ m : Nat, m ≤ h → (m : Int) ≤ plc n C m := fun m => by
    induction m with
    | zero => exact fun _ => Int.le_refl _
    | succ m ih =>
      intro hm
      have h1 := ih (by omega)
      have h2 := a.2 m (by omega)
      have h3 := plc_lt (n := n) (C := C) (b := m + 1) h2 (by omega)
      omega
  have h1 := hb h (Nat.le_refl h)
  have h2 := (plc_in (C := C) n0 h).2
  omega
/-- the places at which pieces begin, but 0 -/
def plM (n : Int) (C : Int → Int) (h : Nat) (v : Int) : Prop := ∀ k, 0 ≤ k → k < 32 → (inB v k = true ↔ (k ≠ 0 ∧ ∃ m : Nat, m < h ∧ plc n C m = k))
theorem plM_0 {n : Int} {C : Int → Int} : plM n C 0 0 := fun k k0 k9 => ⟨(fun h => by { rw [inB0] at h; cases h }), fun ⟨_, m, hm, _⟩ => absurd hm (Nat.not_lt_zero m)⟩
theorem plM_s {n v p : Int} {C : Int → Int} {h : Nat} (hv : plM n C h v) (p0 : 0 ≤ p) (p9 : p < 32) (hz : p ≠ 0) (e : plc n C h = p) : plM n C (h + 1) (bOr v (bShl 1 p)) := fun k k0 k9 => by
  rw [inB_or k0 k9, inB_sh p0 p9 k0 k9, Bool.or_eq_true, decide_eq_true_eq, hv k k0 k9]
  constructor
  · rintro (⟨c, m, m1, m2⟩ | c)
    · exact ⟨c, m, by omega, m2⟩
    · exact ⟨by rw [← c]; exact hz, h, by omega, e.trans c⟩
  · rintro ⟨c, m, m1, m2⟩
    rcases (by omega : m < h ∨ m = h) with q | q
    · exact Or.inl ⟨c, m, q, m2⟩
    · right
      rw [q, e] at m2
      exact m2
theorem plM_k {n v : Int} {C : Int → Int} {h : Nat} (hv : plM n C h v) (e : plc n C h = 0) : plM n C (h + 1) (bOr v 0) := fun k k0 k9 => by
  rw [inB_or k0 k9, inB0, Bool.or_false, hv k k0 k9]
  constructor
  · rintro ⟨c, m, m1, m2⟩
    exact ⟨c, m, by omega, m2⟩
  · rintro ⟨c, m, m1, m2⟩
    rcases (by omega : m < h ∨ m = h) with q | q
    · exact ⟨c, m, q, m2⟩
    · rw [q, e] at m2
      exact absurd m2.symm c
theorem begK {n k : Int} {C : Int → Int} (n0 : 0 ≤ n) (n9 : n ≤ 30) (k0 : n ≤ k) (k9 : k < 32) : inB (beg n C) k = false := by
  obtain ⟨h, X, a, e, hx, hp⟩ := beg_pc (C := C) n0 n9
  have hp2 : 2 ^ n.toNat ≤ 2 ^ k.toNat := Nat.pow_le_pow_right (by decide) (by omega)
  rw [e, inB_bt (by omega) k9, zI_nat]
  show (BitVec.ofNat 32 X).getLsbD k.toNat = false
  rw [BitVec.getLsbD_ofNat, Nat.testBit_eq_decide_div_mod_eq, Nat.div_eq_of_lt (by omega)]
  simp
theorem begM {n : Int} {C : Int → Int} (n0 : 0 ≤ n) (n9 : n ≤ 30) : ∃ h : Nat, plN n C h ∧ plM n C h (bAnd (beg n C) (-2)) := by
  obtain ⟨h, X, a, -⟩ := beg_pc (C := C) n0 n9
  refine ⟨h, a, fun k k0 k9 => ?_⟩
  rw [inB_and k0 k9, inB_m2 k0 k9, Bool.and_eq_true, decide_eq_true_eq]
  rcases (by omega : k < n ∨ n ≤ k) with q | q
  · rw [begB n0 n9 k0 q]
    constructor
    · rintro ⟨⟨m, hm⟩, c⟩
      refine ⟨by omega, m, ?_, hm⟩
      rcases Nat.lt_or_ge m h with z | z
      · exact z
      · have := plc_m (n := n) (C := C) h (m - h)
        rw [show h + (m - h) = m by omega] at this
        have := a.1
        omega
    · rintro ⟨c, m, _, hm⟩
      exact ⟨⟨m, hm⟩, by omega⟩
  · rw [begK n0 n9 q k9]
    constructor
    · rintro ⟨c, _⟩
      cases c
    · rintro ⟨_, m, m1, hm⟩
      have := a.2 m m1
      omega
theorem plM_u {n v v2 : Int} {C D : Int → Int} {h h2 : Nat} (n0 : 0 ≤ n) (hc : tEq n C D) (r1 : inr v) (r2 : inr v2) (a : plN n C h) (va : plM n C h v) (b : plN n D h2) (vb : plM n D h2 v2) : v = v2 := by
  have e := plN_u n0 hc a b
  subst e
  refine inB_ext r1 r2 (fun k k0 k9 => ?_)
  have go : inB v k = true ↔ inB v2 k = true := by
    rw [va k k0 k9, vb k k0 k9]
    constructor
    · rintro ⟨c, m, m1, m2⟩
      exact ⟨c, m, m1, by rw [← plc_cg n0 hc]; exact m2⟩
    · rintro ⟨c, m, m1, m2⟩
      exact ⟨c, m, m1, by rw [plc_cg n0 hc]; exact m2⟩
  cases e1 : inB v k with
  | true => exact (go.mp e1).symm
  | false =>
    cases e2 : inB v2 k with
    | false => rfl
    | true =>
      have := go.mpr e2
      rw [e1] at this
      cases this
