/-! what an act makes of a text: both sides' words; bits of sets of places (bt .. b_sshr: the kit's rows on Int32 by its bits, pasted) -/
def bt (x : Int32) (i : Nat) : Bool := x.toBitVec.getLsbD i
theorem b_ext {x y : Int32} (h : ∀ i, i < 32 → bt x i = bt y i) : x = y := Int32.toBitVec_inj.mp (BitVec.eq_of_getLsbD_eq (fun i hi => h i hi))
theorem b_or (x y : Int32) (i : Nat) : bt (x ||| y) i = (bt x i || bt y i) := by unfold bt; rw [Int32.toBitVec_or, BitVec.getLsbD_or]
theorem b_and (x y : Int32) (i : Nat) : bt (x &&& y) i = (bt x i && bt y i) := by unfold bt; rw [Int32.toBitVec_and, BitVec.getLsbD_and]
theorem b_xor (x y : Int32) (i : Nat) : bt (x ^^^ y) i = (bt x i ^^ bt y i) := by unfold bt; rw [Int32.toBitVec_xor, BitVec.getLsbD_xor]
theorem b_m1 : ∀ i, i < 32 → bt (-1) i = true := by decide +kernel
theorem b_0 (i : Nat) : bt 0 i = false := BitVec.getLsbD_zero
theorem s_l : ∀ n, n < 32 → ((nI n &&& 31).toBitVec.smod 32).toNat = n := by decide +kernel
theorem b_sshr (n : Nat) (hn : n < 32) (x : Int32) {i : Nat} (hi : i < 32) : bt (x >>> (nI n &&& 31)) i = if n + i < 32 then bt x (n + i) else bt x 31 := by
  unfold bt
  rw [Int32.toBitVec_shiftRight]
  show (x.toBitVec.sshiftRight ((nI n &&& 31).toBitVec.smod 32).toNat).getLsbD i = _
  rw [s_l n hn, BitVec.getLsbD_sshiftRight, BitVec.msb_eq_getLsbD_last]
  simp [hi]
theorem zI_pos {c : Int} (h : 0 ≤ c) : zI c = nI c.toNat := by
  have e := zI_nat c.toNat
  rw [Int.toNat_of_nonneg h] at e
  exact e
theorem b_one : ∀ i, i < 32 → bt (zI 1) i = decide (i = 0) := by decide +kernel
theorem bo_f {x : Bool} (h : ¬ x = true) : x = false := by
  cases x with
  | true => exact absurd rfl h
  | false => rfl
theorem and1_bt (x : Int32) : x &&& zI 1 = if bt x 0 = true then zI 1 else zI 0 := by
  apply b_ext
  intro i hi
  rw [b_and, b_one i hi]
  by_cases h : bt x 0 = true
  · rw [if_pos h, b_one i hi]
    by_cases e : i = 0
    · subst e; rw [h]; rfl
    · rw [decide_eq_false e, Bool.and_false]
  · rw [if_neg h, zI_0, b_0]
    by_cases e : i = 0
    · subst e; rw [bo_f h]; rfl
    · rw [decide_eq_false e, Bool.and_false]
theorem inB_bt {m c : Int} (h0 : 0 ≤ c) (h9 : c < 32) : inB m c = bt (zI m) c.toNat := by
  have hc : c.toNat < 32 := by omega
  have h2 : bt (zI m >>> (nI c.toNat &&& 31)) 0 = bt (zI m) c.toNat := by
    rw [b_sshr c.toNat hc (zI m) (by decide), if_pos (by omega), Nat.add_zero]
  unfold inB bAnd bShr
  rw [zI_of, zI_pos h0, and1_bt, h2]
  by_cases h : bt (zI m) c.toNat = true
  · rw [if_pos h, h]; exact decide_eq_true (by decide +kernel)
  · rw [if_neg h, bo_f h]; exact decide_eq_false (by decide +kernel)
set_option maxRecDepth 100000 in
theorem inB_shD : ∀ i : Fin 32, ∀ j : Fin 32, inB (bShl 1 ((i.val : Nat) : Int)) ((j.val : Nat) : Int) = decide (i.val = j.val) := by decide +kernel
theorem inB_sh {i j : Int} (i0 : 0 ≤ i) (i9 : i < 32) (j0 : 0 ≤ j) (j9 : j < 32) : inB (bShl 1 i) j = decide (i = j) := by
  have h : inB (bShl 1 ((i.toNat : Nat) : Int)) ((j.toNat : Nat) : Int) = decide (i.toNat = j.toNat) := inB_shD ⟨i.toNat, by omega⟩ ⟨j.toNat, by omega⟩
  have e1 : ((i.toNat : Nat) : Int) = i := Int.toNat_of_nonneg i0
  have e2 : ((j.toNat : Nat) : Int) = j := Int.toNat_of_nonneg j0
  rw [e1, e2] at h
  rw [h]
  by_cases c : i = j
  · rw [decide_eq_true c]; exact decide_eq_true (by omega)
  · rw [decide_eq_false c]; exact decide_eq_false (by omega)
set_option maxRecDepth 100000 in
theorem inB_allD : ∀ i : Fin 31, ∀ j : Fin 32, inB (bShl 1 ((i.val : Nat) : Int) - 1) ((j.val : Nat) : Int) = decide (j.val < i.val) := by decide +kernel
theorem inB_all {n j : Int} (i0 : 0 ≤ n) (i9 : n ≤ 30) (j0 : 0 ≤ j) (j9 : j < 32) : inB (bShl 1 n - 1) j = decide (j < n) := by
  have h : inB (bShl 1 ((n.toNat : Nat) : Int) - 1) ((j.toNat : Nat) : Int) = decide (j.toNat < n.toNat) := inB_allD ⟨n.toNat, by omega⟩ ⟨j.toNat, by omega⟩
  have e1 : ((n.toNat : Nat) : Int) = n := Int.toNat_of_nonneg i0
  have e2 : ((j.toNat : Nat) : Int) = j := Int.toNat_of_nonneg j0
  rw [e1, e2] at h
  rw [h]
  by_cases c : j < n
  · rw [decide_eq_true c]; exact decide_eq_true (by omega)
  · rw [decide_eq_false c]; exact decide_eq_false (by omega)
theorem inB_or {x y j : Int} (j0 : 0 ≤ j) (j9 : j < 32) : inB (bOr x y) j = (inB x j || inB y j) := by rw [inB_bt j0 j9, inB_bt j0 j9, inB_bt j0 j9, zI_bOr, b_or]
theorem inB_and {x y j : Int} (j0 : 0 ≤ j) (j9 : j < 32) : inB (bAnd x y) j = (inB x j && inB y j) := by rw [inB_bt j0 j9, inB_bt j0 j9, inB_bt j0 j9, zI_bAnd, b_and]
theorem inB_not {x j : Int} (j0 : 0 ≤ j) (j9 : j < 32) : inB (bXor x (-1)) j = !inB x j := by
  rw [inB_bt j0 j9, inB_bt j0 j9, zI_bXor, b_xor, show zI (-1) = -1 by decide +kernel, b_m1 j.toNat (by omega), Bool.xor_true]
/-! loops, side by side -/
theorem forF_rel {σ τ : Type} {f : Int → σ → σ} {g : Int → τ → τ} {R : Int → σ → τ → Prop} : ∀ (k : Nat) (i : Int) (v : σ) (w : τ), R i v w → (∀ j v w, i ≤ j → j < i + (k : Int) → R j v w → R (j + 1) (f j v) (g j w)) → R (i + (k : Int)) (forF f k i v) (forF g k i w)
  | 0, i, v, w, h, _ => by
    rw [show i + ((0 : Nat) : Int) = i by omega]
    exact h
  | k + 1, i, v, w, h, hs => by
    have e := forF_rel k (i + 1) (f i v) (g i w) (hs i v w (Int.le_refl _) (by omega) h) (fun j v w h1 h2 h3 => hs j v w (by omega) (by omega) h3)
    rw [show i + ((k + 1 : Nat) : Int) = i + 1 + (k : Int) by omega]
    exact e
theorem forI_rel {σ τ : Type} {f : Int → σ → σ} {g : Int → τ → τ} {R : Int → σ → τ → Prop} {i n : Int} (hin : i ≤ n) {v : σ} {w : τ} (h : R i v w) (hs : ∀ j v w, i ≤ j → j < n → R j v w → R (j + 1) (f j v) (g j w)) : R n (forI f i n v) (forI g i n w) := by
  have e := forF_rel (R := R) (f := f) (g := g) (n - i).toNat i v w h (fun j v w h1 h2 h3 => hs j v w h1 (by omega) h3)
  rw [show i + (((n - i).toNat : Nat) : Int) = n by omega] at e
  exact e
theorem forI_ind {σ : Type} {f : Int → σ → σ} {P : Int → σ → Prop} {i n : Int} (hin : i ≤ n) {v : σ} (h : P i v) (hs : ∀ j v, i ≤ j → j < n → P j v → P (j + 1) (f j v)) : P n (forI f i n v) :=
  forI_rel (g := f) (R := fun i z (_ : σ) => P i z) (w := v) hin h (fun j v _ h1 h2 h3 => hs j v h1 h2 h3)
theorem inB_msk {P : Int → Bool} {n j : Int} (n0 : 0 ≤ n) (n9 : n ≤ 31) (j0 : 0 ≤ j) (j9 : j < 32) : inB (msk P n) j = (decide (j < n) && P j) := by
  have hs : ∀ (i v : Int), 0 ≤ i → i < n → inB v j = (decide (j < i) && P j) → inB (mstep P i v) j = (decide (j < i + 1) && P j) := by
    intro i v h1 h2 h3
    have hc : i ≠ j → decide (j < i) = decide (j < i + 1) := fun e => by
      by_cases c : j < i
      · rw [decide_eq_true c, decide_eq_true (by omega)]
      · rw [decide_eq_false c, decide_eq_false (by omega)]
    cases hp : P i with
    | true =>
      rw [mstep_t hp, inB_or j0 j9, h3, inB_sh h1 (by omega) j0 j9]
      by_cases e : i = j
      · subst e
        rw [hp, decide_eq_true (show i < i + 1 by omega), decide_eq_true (show i = i from rfl), Bool.or_true]; rfl
      · rw [decide_eq_false e, Bool.or_false, hc e]
    | false =>
      rw [mstep_f hp, h3]
      by_cases e : i = j
      · subst e
        rw [hp, Bool.and_false, Bool.and_false]
      · rw [hc e]
  exact forI_ind (P := fun i v => inB v j = (decide (j < i) && P j)) n0 (by show inB 0 j = (decide (j < 0) && P j); rw [inB0, decide_eq_false (by omega)]; rfl) hs
theorem inB_keep {Q : Int → Bool} {n j : Int} {o : Bool} (n0 : 0 ≤ n) (n9 : n ≤ 30) (j0 : 0 ≤ j) (jn : j < n) : inB (cond o (msk Q n) (bAnd (bShl 1 n - 1) (bXor (msk Q n) (-1)))) j = (Q j == o) := by
  cases o with
  | true =>
    show inB (msk Q n) j = _
    rw [inB_msk n0 (by omega) j0 (by omega), decide_eq_true jn]
    cases Q j <;> rfl
  | false =>
    show inB (bAnd (bShl 1 n - 1) (bXor (msk Q n) (-1))) j = _
    rw [inB_and j0 (by omega), inB_all n0 n9 j0 (by omega), inB_not j0 (by omega), inB_msk n0 (by omega) j0 (by omega), decide_eq_true jn]
    cases Q j <;> rfl
theorem inB_drop {n p j : Int} (n0 : 0 ≤ n) (n9 : n ≤ 30) (p0 : 0 ≤ p) (p9 : p < n) (j0 : 0 ≤ j) (jn : j < n) : inB (bAnd (bShl 1 n - 1) (bXor (bShl 1 p) (-1))) j = decide (j ≠ p) := by
  rw [inB_and j0 (by omega), inB_all n0 n9 j0 (by omega), inB_not j0 (by omega), inB_sh p0 (by omega) j0 (by omega), decide_eq_true jn]
  by_cases c : p = j
  · rw [decide_eq_true c, decide_eq_false (fun h => h c.symm)]; rfl
  · rw [decide_eq_false c]; exact (decide_eq_true (show j ≠ p from fun h => c h.symm)).symm
/-! places that are found -/
theorem findF_no {P : Int → Bool} : ∀ (k : Nat) (i j : Int), i ≤ j → j < findF P k i → P j = false
  | 0, i, j, h1, h2 => by
    have h3 : j < i := h2
    omega
  | k + 1, i, j, h1, h2 => by
    cases hp : P i with
    | true =>
      have h3 : findF P (k + 1) i = i := by show (match P i with | true => i | false => findF P k (i + 1)) = i; rw [hp]
      omega
    | false =>
      have h3 : findF P (k + 1) i = findF P k (i + 1) := by show (match P i with | true => i | false => findF P k (i + 1)) = _; rw [hp]
      rcases (by omega : j = i ∨ i + 1 ≤ j) with e | e
      · rw [e]; exact hp
      · exact findF_no k (i + 1) j e (by omega)
theorem findF_yes {P : Int → Bool} : ∀ (k : Nat) (i : Int), findF P k i < i + (k : Int) → P (findF P k i) = true
  | 0, i, h => by
    have h3 : i < i + ((0 : Nat) : Int) := h
    omega
  | k + 1, i, h => by
    cases hp : P i with
    | true =>
      have h3 : findF P (k + 1) i = i := by show (match P i with | true => i | false => findF P k (i + 1)) = i; rw [hp]
      rw [h3]; exact hp
    | false =>
      have h3 : findF P (k + 1) i = findF P k (i + 1) := by show (match P i with | true => i | false => findF P k (i + 1)) = _; rw [hp]
      rw [h3] at h ⊢
      exact findF_yes k (i + 1) (by omega)
theorem findI_no {P : Int → Bool} {i n j : Int} (h1 : i ≤ j) (h2 : j < findI P i n) : P j = false := findF_no _ i j h1 h2
theorem findI_yes {P : Int → Bool} {i n : Int} (h : i ≤ n) (h2 : findI P i n < n) : P (findI P i n) = true := findF_yes _ i (by unfold findI at h2; omega)
theorem findI_all {P : Int → Bool} {i n e : Int} (h1 : i ≤ e) (h2 : e ≤ n) : e ≤ findI P i n ↔ ∀ j, i ≤ j → j < e → P j = false := by
  constructor
  · exact fun h j hj he => findI_no (n := n) hj (by omega)
  · intro h
    rcases (by omega : findI P i n < e ∨ e ≤ findI P i n) with q | q
    · have h3 := findI_yes (P := P) (i := i) (n := n) (by omega) (by omega)
      have h4 := (findI_in (P := P) (i := i) (n := n) (by omega)).1
      rw [h _ h4 q] at h3
      cases h3
    · exact q
theorem findI_cg {P Q : Int → Bool} {i n : Int} (h : i ≤ n) (hp : ∀ j, i ≤ j → j < n → P j = Q j) : findI P i n = findI Q i n := by
  have a := findI_in (P := P) h
  have b := findI_in (P := Q) h
  have c := (findI_all (P := P) (e := findI Q i n) b.1 b.2).mpr (fun j h1 h2 => by rw [hp j h1 (by omega)]; exact findI_no (n := n) h1 h2)
  have d := (findI_all (P := Q) (e := findI P i n) a.1 a.2).mpr (fun j h1 h2 => by rw [← hp j h1 (by omega)]; exact findI_no (n := n) h1 h2)
  omega
/-! signs that move -/
def shf (i n : Int) (C : Int → Int) : Int → Int := fun j => if i < j ∧ j ≤ n then C (j - 1) else C j
theorem shf_n {n : Int} {C : Int → Int} : shf n n C = C := funext fun j => if_neg (by omega)
theorem shf_s {i n : Int} {C : Int → Int} (h : i ≤ n) : uF (shf i n C) i (shf i n C (i - 1)) = shf (i + -1) n C := funext fun j => by
  unfold uF shf
  by_cases e : j = i
  · rw [if_pos e, if_neg (by omega), if_pos (by omega), e]
  · rw [if_neg e]
    by_cases h1 : i < j ∧ j ≤ n
    · rw [if_pos h1, if_pos (by omega)]
    · rw [if_neg h1, if_neg (by omega)]
/-- s put in at p of n signs -/
def tins (n p s : Int) (C : Int → Int) : Int → Int := uF (shf p n C) p s
/-- m signs of D from f on, then C -/
def bcm (f m : Int) (D C : Int → Int) : Int → Int := fun j => if 0 ≤ j ∧ j < m then D (f + j) else C j
theorem bcm_0 {f : Int} {D C : Int → Int} : bcm f 0 D C = C := funext fun j => if_neg (by omega)
theorem bcm_s {f m x : Int} {D C : Int → Int} (h0 : 0 ≤ m) (hx : x = D (f + m)) : uF (bcm f m D C) m x = bcm f (m + 1) D C := funext fun j => by
  unfold uF bcm
  by_cases e : j = m
  · rw [if_pos e, if_pos (by omega), hx, e]
  · rw [if_neg e]
    by_cases h1 : 0 ≤ j ∧ j < m
    · rw [if_pos h1, if_pos (by omega)]
    · rw [if_neg h1, if_neg (by omega)]
/-- n of C, m of D behind them -/
def tapp (n m : Int) (D C : Int → Int) : Int → Int := fun j => if n ≤ j ∧ j < n + m then D (j - n) else C j
theorem tapp_0 {n : Int} {D C : Int → Int} : tapp n 0 D C = C := funext fun j => if_neg (by omega)
theorem tapp_s {n m x : Int} {D C : Int → Int} (h0 : 0 ≤ m) (hx : x = D m) : uF (tapp n m D C) (n + m) x = tapp n (m + 1) D C := funext fun j => by
  unfold uF tapp
  by_cases e : j = n + m
  · rw [if_pos e, if_pos (by omega), hx, e]
    congr 1
    omega
  · rw [if_neg e]
    by_cases h1 : n ≤ j ∧ j < n + m
    · rw [if_pos h1, if_pos (by omega)]
    · rw [if_neg h1, if_neg (by omega)]
/-- i signs from each end turned -/
def trv (i n : Int) (C : Int → Int) : Int → Int := fun j => if (0 ≤ j ∧ j < i) ∨ (n - i ≤ j ∧ j < n) then C (n - 1 - j) else C j
theorem trv_0 {n : Int} {C : Int → Int} : trv 0 n C = C := funext fun j => if_neg (by omega)
theorem bcm_o {f m j : Int} {D C : Int → Int} (h : ¬ (0 ≤ j ∧ j < m)) : bcm f m D C j = C j := if_neg h
theorem tapp_o {n m j : Int} {D C : Int → Int} (h : ¬ (n ≤ j ∧ j < n + m)) : tapp n m D C j = C j := if_neg h
def tSelfC (a r bb : Nat) (n : Int) (C : Int → Int) (a2 r2 bb2 : Nat) (n2 : Int) (C2 : Int → Int) : Prop := (a2 = a ∧ r2 = r ∧ bb2 = bb ∧ n2 = n ∧ C2 = C) ∨ (¬ tP a r bb a2 ∧ ¬ tP a r bb r2 ∧ ¬ tP a r bb bb2)
theorem tSelfC.oth {G : gK} {w w1 : wd} {a r bb a2 r2 bb2 : Nat} {n n1 n2 : Int} {C C1 B1 C2 B2 : Int → Int} (hs : tSelfC a r bb n C a2 r2 bb2 n2 C2) (ht : tX G w1 a r bb n1 C1 B1) (ht2 : tX G w a2 r2 bb2 n2 C2 B2) (hf : fr (tP a r bb) w w1) : ∃ n3 D, w1 a2 = some (eO 2 [rv r2, iv n3, rv bb2]) ∧ w1 r2 = some (eB G 30 (sgF D)) ∧ (∀ j, 0 ≤ D j ∧ D j ≤ 255) ∧ (D = C2 ∨ (D = C1 ∧ C2 = C ∧ n2 = n)) := by
  rcases hs with ⟨rfl, rfl, rfl, e1, e2⟩ | ⟨h1, h2, h3⟩
  · exact ⟨n1, C1, ht.1, ht.2.1, ht.2.2.2.2.2, Or.inr ⟨rfl, e2, e1⟩⟩
  · exact ⟨n2, C2, hf.at h1 ht2.1, hf.at h2 ht2.2.1, ht2.2.2.2.2.2, Or.inl rfl⟩
theorem kS.selfC {G : gK} {w : wd} {K : kA} {M : kM} (h : kS G w K M) {i j : Int} (i0 : 0 ≤ i) (i3 : i < 3) (j0 : 0 ≤ j) (j3 : j < 3) : tSelfC (K.2.2.1 i) (K.2.2.2.1 i) (K.2.2.2.2 i) (M.1 i) (M.2.1 i) (K.2.2.1 j) (K.2.2.2.1 j) (K.2.2.2.2 j) (M.1 j) (M.2.1 j) := by
  rcases h.self i0 i3 j0 j3 with ⟨e1, e2, e3⟩ | q
  · by_cases e : j = i
    · subst e
      exact Or.inl ⟨rfl, rfl, rfl, rfl, rfl⟩
    · exact absurd e1 (h.2.2.2 j i j0 j3 i0 i3 e).1
  · exact Or.inr q
theorem bB_inj {x y : Int} (hx : 0 ≤ x ∧ x ≤ 255) (hy : 0 ≤ y ∧ y ≤ 255) (h : bB x = bB y) : x = y := by
  have e := sgn_byte hx.1 hx.2
  rw [h, sgn_byte hy.1 hy.2] at e
  exact e.symm
theorem trv_s {i n : Int} {C : Int → Int} (h0 : 0 ≤ i) (h1 : i < n - 1 - i) : uF (uF (trv i n C) i (trv i n C (n - 1 - i))) (n - 1 - i) (trv i n C i) = trv (i + 1) n C := funext fun j => by
  have e1 : trv i n C (n - 1 - i) = C (n - 1 - i) := if_neg (by omega)
  have e2 : trv i n C i = C i := if_neg (by omega)
  rw [e1, e2]
  unfold uF trv
  by_cases a : j = n - 1 - i
  · rw [if_pos a, if_pos (by omega), a]
    congr 1
    omega
  · rw [if_neg a]
    by_cases b : j = i
    · rw [if_pos b, if_pos (by omega), b]
    · rw [if_neg b]
      by_cases c : (0 ≤ j ∧ j < i) ∨ (n - i ≤ j ∧ j < n)
      · rw [if_pos c, if_pos (by omega)]
      · rw [if_neg c, if_neg (by omega)]
theorem trv_i {i n : Int} {C : Int → Int} (h1 : i < n - 1 - i) : trv i n C (n - 1 - i) = C (n - 1 - i) ∧ trv i n C i = C i := ⟨if_neg (by omega), if_neg (by omega)⟩
theorem trv_e {i n j : Int} {C : Int → Int} (h : n ≤ 2 * i + 1) (h2 : 2 * i ≤ n) (j0 : 0 ≤ j) (jn : j < n) : trv i n C j = C (n - 1 - j) := by
  unfold trv
  by_cases c : (0 ≤ j ∧ j < i) ∨ (n - i ≤ j ∧ j < n)
  · rw [if_pos c]
  · rw [if_neg c]
    congr 1
    omega
/-- another sign stands turned round at one of the first i places -/
def trx (i n : Int) (C : Int → Int) : Prop := ∃ j, 0 ≤ j ∧ j < i ∧ C j ≠ C (n - 1 - j)
theorem trq_0 {n : Int} {C : Int → Int} : (false = true ↔ trx 0 n C) := ⟨(fun h => by cases h), fun ⟨j, h1, h2, _⟩ => by omega⟩
theorem trq_1 {i n : Int} {C : Int → Int} {o : Bool} (ho : o = true ↔ trx i n C) (c : o = true) : (true = true ↔ trx (i + 1) n C) := ⟨fun _ => by
  obtain ⟨j, h1, h2, h3⟩ := ho.mp c
  exact ⟨j, h1, by omega, h3⟩, fun _ => rfl⟩
theorem trq_2 {i n : Int} {C : Int → Int} (h0 : 0 ≤ i) (c : C i ≠ C (n - 1 - i)) : (true = true ↔ trx (i + 1) n C) := ⟨fun _ => ⟨i, h0, by omega, c⟩, fun _ => rfl⟩
theorem trq_3 {i n : Int} {C : Int → Int} {o : Bool} (ho : o = true ↔ trx i n C) (c : o = false) (e : C i = C (n - 1 - i)) : (false = true ↔ trx (i + 1) n C) := ⟨(fun h => by cases h), fun ⟨j, h1, h2, h3⟩ => by
  rcases (by omega : j < i ∨ j = i) with q | q
  · have := ho.mpr ⟨j, h1, q, h3⟩
    rw [c] at this
    cases this
  · rw [q] at h3
    exact absurd e h3⟩
theorem trx_h {i n : Int} {C : Int → Int} (h : n ≤ 2 * i + 1) (h2 : 2 * i ≤ n) : trx i n C ↔ trx n n C := by
  constructor
  · rintro ⟨j, j0, j1, hj⟩
    exact ⟨j, j0, by omega, hj⟩
  · rintro ⟨j, j0, j1, hj⟩
    rcases (by omega : j < i ∨ n - 1 - j < i ∨ n - 1 - j = j) with q | q | q
    · exact ⟨j, j0, q, hj⟩
    · exact ⟨n - 1 - j, by omega, q, fun e => hj (by rw [e]; congr 1; omega)⟩
    · rw [q] at hj
      exact absurd rfl hj
theorem trn_iff {n : Int} {C : Int → Int} (hn : 0 ≤ n) : findI (fun j => decide (C j ≠ C (n - 1 - j))) 0 n < n ↔ trx n n C := by
  have h1 := findI_in (P := fun j => decide (C j ≠ C (n - 1 - j))) hn
  constructor
  · intro h
    exact ⟨_, h1.1, h, of_decide_eq_true (findI_yes (P := fun j => decide (C j ≠ C (n - 1 - j))) hn h)⟩
  · rintro ⟨j, j0, jn, hj⟩
    rcases (by omega : findI (fun j => decide (C j ≠ C (n - 1 - j))) 0 n < n ∨ j < findI (fun j => decide (C j ≠ C (n - 1 - j))) 0 n) with q | q
    · exact q
    · exact absurd hj (of_decide_eq_false (findI_no (P := fun j => decide (C j ≠ C (n - 1 - j))) j0 q))
/-! alike below n; what an act comes to -/
def tEq (n : Int) (C D : Int → Int) : Prop := ∀ j, 0 ≤ j → j < n → C j = D j
theorem tEq.rf {n : Int} {C : Int → Int} : tEq n C C := fun _ _ _ => rfl
theorem tEq.sm {n : Int} {C D : Int → Int} (h : tEq n C D) : tEq n D C := fun j h1 h2 => (h j h1 h2).symm
theorem tEq.tr {n : Int} {C D E : Int → Int} (h : tEq n C D) (h2 : tEq n D E) : tEq n C E := fun j h3 h4 => (h j h3 h4).trans (h2 j h3 h4)
theorem bcm_eq {f m : Int} {D C : Int → Int} : tEq m (bcm f m D C) (fun j => D (f + j)) := fun _ h1 h2 => if_pos ⟨h1, h2⟩
theorem bcm_eq0 {m : Int} {D C : Int → Int} : tEq m (bcm 0 m D C) D := fun j h1 h2 => (if_pos ⟨h1, h2⟩).trans (by rw [Int.zero_add])
theorem tins_cg {n p s : Int} {C D : Int → Int} (h : tEq n C D) (p0 : 0 ≤ p) (pn : p ≤ n) : tEq (n + 1) (tins n p s C) (tins n p s D) := fun j j0 jn => by
  unfold tins uF shf
  by_cases e : j = p
  · rw [if_pos e, if_pos e]
  · rw [if_neg e, if_neg e]
    by_cases c : p < j ∧ j ≤ n
    · rw [if_pos c, if_pos c]; exact h _ (by omega) (by omega)
    · rw [if_neg c, if_neg c]
      rcases (by omega : j < n ∨ j = n) with q | q
      · exact h _ j0 q
      · omega
theorem tapp_cg {n m : Int} {C D C2 D2 : Int → Int} (h : tEq n C D) (h2 : tEq m C2 D2) : tEq (n + m) (tapp n m C2 C) (tapp n m D2 D) := fun j j0 jn => by
  unfold tapp
  by_cases c : n ≤ j ∧ j < n + m
  · rw [if_pos c, if_pos c]; exact h2 _ (by omega) (by omega)
  · rw [if_neg c, if_neg c]; exact h _ j0 (by omega)
theorem sft_cg {P Q : Int → Bool} {n : Int} {C D : Int → Int} (hn : 0 ≤ n) (hP : ∀ j, 0 ≤ j → j < n → P j = Q j) (hC : tEq n C D) : (sft P n C).1 = (sft Q n D).1 ∧ tEq (sft P n C).1 (sft P n C).2 (sft Q n D).2 := by
  have hs : ∀ (j : Int) (v w : Int × (Int → Int)), 0 ≤ j → j < n → (v.1 = w.1 ∧ 0 ≤ v.1 ∧ v.1 ≤ j ∧ tEq v.1 v.2 w.2) → ((sfs P C j v).1 = (sfs Q D j w).1 ∧ 0 ≤ (sfs P C j v).1 ∧ (sfs P C j v).1 ≤ j + 1 ∧ tEq (sfs P C j v).1 (sfs P C j v).2 (sfs Q D j w).2) := by
    rintro j ⟨k, E⟩ ⟨k2, E2⟩ h1 h2 ⟨e, h0, hk, hE⟩
    have e : k = k2 := e
    subst e
    cases hp : P j with
    | true =>
      rw [sfs_t hp, sfs_t (by rw [← hP j h1 h2]; exact hp)]
      refine ⟨rfl, ?_, ?_, ?_⟩
      · show 0 ≤ k + 1
        have : 0 ≤ k := h0
        omega
      · show k + 1 ≤ j + 1
        have : k ≤ j := hk
        omega
      · intro i i0 i1
        have i1 : i < k + 1 := i1
        show uF E k (C j) i = uF E2 k (D j) i
        unfold uF
        by_cases q : i = k
        · rw [if_pos q, if_pos q]; exact hC j h1 h2
        · rw [if_neg q, if_neg q]; exact hE i i0 (by show i < k; omega)
    | false =>
      rw [sfs_f hp, sfs_f (by rw [← hP j h1 h2]; exact hp)]
      exact ⟨rfl, h0, by have : k ≤ j := hk; show k ≤ j + 1; omega, hE⟩
  have h := forI_rel (f := sfs P C) (g := sfs Q D) (R := fun i z y => z.1 = y.1 ∧ 0 ≤ z.1 ∧ z.1 ≤ i ∧ tEq z.1 z.2 y.2) (i := 0) (n := n) hn (v := ((0 : Int), C)) (w := ((0 : Int), D)) ⟨rfl, Int.le_refl _, Int.le_refl _, fun j h1 h2 => absurd h2 (by show ¬ j < 0; omega)⟩ hs
  exact ⟨h.1, h.2.2.2⟩
theorem sft_in {P : Int → Bool} {n : Int} {C : Int → Int} (hn : 0 ≤ n) : 0 ≤ (sft P n C).1 ∧ (sft P n C).1 ≤ n :=
  forI_ind (f := sfs P C) (P := fun i (z : Int × (Int → Int)) => 0 ≤ z.1 ∧ z.1 ≤ i) (i := 0) (n := n) hn (v := ((0 : Int), C)) ⟨Int.le_refl _, Int.le_refl _⟩ (fun j v h1 h2 h3 => by
    obtain ⟨k, E⟩ := v
    have h4 : 0 ≤ k ∧ k ≤ j := h3
    cases hp : P j with
    | true =>
      rw [sfs_t hp]
      show 0 ≤ k + 1 ∧ k + 1 ≤ j + 1
      omega
    | false =>
      rw [sfs_f hp]
      show 0 ≤ k ∧ k ≤ j + 1
      omega)
theorem sft_drop {P : Int → Bool} {n p : Int} {C : Int → Int} (p0 : 0 ≤ p) (pn : p < n) (hP : ∀ j, 0 ≤ j → j < n → P j = decide (j ≠ p)) : (sft P n C).1 = n - 1 ∧ tEq (n - 1) (sft P n C).2 (fun j => if j < p then C j else C (j + 1)) := by
  have hs : ∀ (j : Int) (v : Int × (Int → Int)), 0 ≤ j → j < n → (v.1 = (if j ≤ p then j else j - 1) ∧ tEq v.1 v.2 (fun j => if j < p then C j else C (j + 1))) → ((sfs P C j v).1 = (if j + 1 ≤ p then j + 1 else j + 1 - 1) ∧ tEq (sfs P C j v).1 (sfs P C j v).2 (fun j => if j < p then C j else C (j + 1))) := by
    rintro j ⟨k, E⟩ h1 h2 ⟨e, hE⟩
    have e : k = (if j ≤ p then j else j - 1) := e
    by_cases q : j = p
    · rw [sfs_f (by rw [hP j h1 h2]; exact decide_eq_false (fun h => h q))]
      refine ⟨?_, hE⟩
      show k = (if j + 1 ≤ p then j + 1 else j + 1 - 1)
      rw [e, if_pos (by omega), if_neg (by omega)]
      omega
    · rw [sfs_t (by rw [hP j h1 h2]; exact decide_eq_true q)]
      refine ⟨?_, fun i i0 i1 => ?_⟩
      · show k + 1 = (if j + 1 ≤ p then j + 1 else j + 1 - 1)
        rw [e]
        by_cases c : j ≤ p
        · rw [if_pos c, if_pos (by omega)]
        · rw [if_neg c, if_neg (by omega)]; omega
      · have i1 : i < k + 1 := i1
        show uF E k (C j) i = if i < p then C i else C (i + 1)
        unfold uF
        by_cases c : i = k
        · rw [if_pos c]
          by_cases c2 : j ≤ p
          · rw [if_pos c2] at e
            rw [if_pos (show i < p by omega), c, e]
          · rw [if_neg c2] at e
            rw [if_neg (show ¬ i < p by omega)]
            congr 1
            omega
        · rw [if_neg c]
          exact hE i i0 (by show i < k; omega)
  have h := forI_ind (f := sfs P C) (P := fun j (v : Int × (Int → Int)) => v.1 = (if j ≤ p then j else j - 1) ∧ tEq v.1 v.2 (fun j => if j < p then C j else C (j + 1))) (i := 0) (n := n) (by omega) (v := ((0 : Int), C)) ⟨by show (0 : Int) = if (0 : Int) ≤ p then 0 else 0 - 1; rw [if_pos p0], fun j h1 h2 => absurd h2 (by show ¬ j < 0; omega)⟩ hs
  obtain ⟨e, h2⟩ := h
  have e : (sft P n C).1 = n - 1 := e.trans (if_neg (by omega))
  exact ⟨e, by rw [← e]; exact h2⟩
/-! the places at which the pieces begin, one by one -/
def plc (n : Int) (C : Int → Int) : Nat → Int
  | 0 => 0
  | m + 1 => if plc n C m < n then plc n C m + lon n C (plc n C m) else plc n C m
def pbg (n : Int) (C : Int → Int) (k : Int) : Int := if plc n C k.toNat < n then plc n C k.toNat else -1
theorem plc_s {n : Int} {C : Int → Int} {m : Nat} (h : plc n C m < n) : plc n C (m + 1) = plc n C m + lon n C (plc n C m) := if_pos h
theorem plc_c {n : Int} {C : Int → Int} {m : Nat} (h : n ≤ plc n C m) : ∀ j : Nat, plc n C (m + j) = plc n C m
  | 0 => rfl
  | j + 1 => by
    have e := plc_c h j
    show (if plc n C (m + j) < n then _ else plc n C (m + j)) = _
    rw [if_neg (by omega), e]
theorem plc_e {n : Int} {C : Int → Int} {i k p : Int} (hk : 0 ≤ i ∧ i ≤ k) (e : p = plc n C i.toNat) (h : k ≤ i ∨ n ≤ p) : plc n C k.toNat = p := by
  by_cases q : i = k
  · rw [← q, e]
  · have h2 : n ≤ plc n C i.toNat := by omega
    have h3 := plc_c h2 (k.toNat - i.toNat)
    rw [show i.toNat + (k.toNat - i.toNat) = k.toNat by omega] at h3
    rw [h3, e]
theorem pbg_t {n : Int} {C : Int → Int} {k p : Int} (h : plc n C k.toNat = p) (hp : p < n) : pbg n C k = p := by
  unfold pbg
  rw [h, if_pos hp]
theorem pbg_f {n : Int} {C : Int → Int} {k p : Int} (h : plc n C k.toNat = p) (hp : n ≤ p) : pbg n C k = -1 := by
  unfold pbg
  rw [h, if_neg (by omega)]
theorem plc_in {n : Int} {C : Int → Int} (h : 0 ≤ n) : ∀ m : Nat, 0 ≤ plc n C m ∧ plc n C m ≤ n
  | 0 => ⟨Int.le_refl 0, h⟩
  | m + 1 => by
    have e := plc_in (C := C) h m
    show 0 ≤ (if plc n C m < n then plc n C m + lon n C (plc n C m) else plc n C m) ∧ (if plc n C m < n then plc n C m + lon n C (plc n C m) else plc n C m) ≤ n
    by_cases q : plc n C m < n
    · have hl := lon_in (n := n) (C := C) (p := plc n C m) q
      rw [if_pos q]
      omega
    · rw [if_neg q]
      exact e
theorem pbg_in {n : Int} {C : Int → Int} {k : Int} (h : 0 ≤ n) : (0 ≤ pbg n C k ∧ pbg n C k < n) ∨ pbg n C k = -1 := by
  have e := plc_in (C := C) h k.toNat
  unfold pbg
  split
  · exact Or.inl ⟨e.1, by assumption⟩
  · exact Or.inr rfl
theorem plc_m {n : Int} {C : Int → Int} (a : Nat) : ∀ j : Nat, plc n C a ≤ plc n C (a + j)
  | 0 => Int.le_refl _
  | j + 1 => by
    have e := plc_m (n := n) (C := C) a j
    show plc n C a ≤ (if plc n C (a + j) < n then plc n C (a + j) + lon n C (plc n C (a + j)) else plc n C (a + j))
    by_cases q : plc n C (a + j) < n
    · have hl := lon_in (n := n) (C := C) (p := plc n C (a + j)) q
      rw [if_pos q]
      omega
    · rw [if_neg q]
      exact e
theorem plc_lt {n : Int} {C : Int → Int} {a b : Nat} (h : plc n C a < n) (hab : a < b) : plc n C a < plc n C b := by
  have e := plc_m (n := n) (C := C) (a + 1) (b - (a + 1))
  rw [show a + 1 + (b - (a + 1)) = b by omega, plc_s h] at e
  have hl := lon_in (n := n) (C := C) h
  omega
theorem lon_cg {n p : Int} {C D : Int → Int} (h : tEq n C D) (p0 : 0 ≤ p) (pn : p < n) : lon n C p = lon n D p := by
  unfold lon
  rw [h p p0 pn, findI_cg (Q := fun e => !so (D e) (oth (sb (D p)))) (by omega) (fun j h1 h2 => by show (!so (C j) _) = _; rw [h j (by omega) h2])]
theorem plc_cg {n : Int} {C D : Int → Int} (hn : 0 ≤ n) (h : tEq n C D) : ∀ m : Nat, plc n C m = plc n D m
  | 0 => rfl
  | m + 1 => by
    have e := plc_cg hn h m
    have hi := plc_in (C := D) hn m
    show (if plc n C m < n then plc n C m + lon n C (plc n C m) else plc n C m) = (if plc n D m < n then plc n D m + lon n D (plc n D m) else plc n D m)
    rw [e]
    by_cases q : plc n D m < n
    · rw [if_pos q, if_pos q, lon_cg h hi.1 q]
    · rw [if_neg q, if_neg q]
theorem pbg_cg {n k : Int} {C D : Int → Int} (hn : 0 ≤ n) (h : tEq n C D) : pbg n C k = pbg n D k := by
  unfold pbg
  rw [plc_cg hn h]
/-- the bits of the places at which pieces begin -/
theorem begB {n j : Int} {C : Int → Int} (n0 : 0 ≤ n) (n9 : n ≤ 30) (j0 : 0 ≤ j) (jn : j < n) : inB (beg n C) j = true ↔ ∃ m : Nat, plc n C m = j := by
  have hs : ∀ (i : Int) (z : Int × Int), 0 ≤ i → i < n → (∃ h : Nat, z.1 = plc n C h ∧ i ≤ z.1 ∧ (∀ a : Nat, a < h → plc n C a < i) ∧ (inB z.2 j = true ↔ ∃ m : Nat, m < h ∧ plc n C m = j)) → (∃ h : Nat, (bgs n C i z).1 = plc n C h ∧ i + 1 ≤ (bgs n C i z).1 ∧ (∀ a : Nat, a < h → plc n C a < i + 1) ∧ (inB (bgs n C i z).2 j = true ↔ ∃ m : Nat, m < h ∧ plc n C m = j)) := by
    rintro i ⟨e, v⟩ h1 h2 ⟨h, e1, e2, e3, e4⟩
    have e1 : e = plc n C h := e1
    have e2 : i ≤ e := e2
    by_cases q : i = e
    · rw [bgs_t q]
      have hl := lon_in (n := n) (C := C) (p := e) (by omega)
      refine ⟨h + 1, by rw [plc_s (by omega), ← e1]; show e + lon n C i = e + lon n C e; rw [q], by show i + 1 ≤ e + lon n C i; rw [q]; omega, fun a ha => ?_, ?_⟩
      · rcases (by omega : a < h ∨ a = h) with c | c
        · have := e3 a c
          omega
        · rw [c, ← e1]
          omega
      · show inB (bOr v (bShl 1 i)) j = true ↔ _
        rw [inB_or j0 (by omega), inB_sh h1 (by omega) j0 (by omega), Bool.or_eq_true, decide_eq_true_eq]
        constructor
        · rintro (c | c)
          · obtain ⟨m, m1, m2⟩ := e4.mp c
            exact ⟨m, by omega, m2⟩
          · exact ⟨h, by omega, by rw [← e1]; omega⟩
        · rintro ⟨m, m1, m2⟩
          rcases (by omega : m < h ∨ m = h) with c | c
          · exact Or.inl (e4.mpr ⟨m, c, m2⟩)
          · right
            rw [c, ← e1] at m2
            omega
    · rw [bgs_f q]
      exact ⟨h, e1, by show i + 1 ≤ e; omega, fun a ha => by have := e3 a ha; omega, e4⟩
  have hz := forI_ind (f := bgs n C) (P := fun i (z : Int × Int) => ∃ h : Nat, z.1 = plc n C h ∧ i ≤ z.1 ∧ (∀ a : Nat, a < h → plc n C a < i) ∧ (inB z.2 j = true ↔ ∃ m : Nat, m < h ∧ plc n C m = j)) (i := 0) (n := n) n0 (v := ((0 : Int), (0 : Int))) ⟨0, rfl, Int.le_refl _, fun a ha => absurd ha (Nat.not_lt_zero a), ⟨(fun h => by { have h : inB 0 j = true := h; rw [inB0] at h; cases h }), fun ⟨m, m1, _⟩ => absurd m1 (Nat.not_lt_zero m)⟩⟩ hs
  obtain ⟨h, e1, e2, e3, e4⟩ := hz
  have e4 : inB (beg n C) j = true ↔ ∃ m : Nat, m < h ∧ plc n C m = j := e4
  rw [e4]
  constructor
  · rintro ⟨m, _, m2⟩
    exact ⟨m, m2⟩
  · rintro ⟨m, m2⟩
    refine ⟨m, ?_, m2⟩
    rcases Nat.lt_or_ge m h with c | c
    · exact c
    · have := plc_m (n := n) (C := C) h (m - h)
      rw [show h + (m - h) = m by omega] at this
      omega
/-- the next beginning stands there -/
theorem begT {n i h : Int} {C : Int → Int} (n0 : 0 ≤ n) (n9 : n ≤ 30) (i0 : 0 ≤ i) (iN : i < n) (h0 : 0 ≤ h) (hb : ∀ a : Nat, a < h.toNat → plc n C a < i) (hi : i ≤ plc n C h.toNat) (c : inB (beg n C) i = true) : plc n C h.toNat = i ∧ (∀ a : Nat, a < (h + 1).toNat → plc n C a < i + 1) ∧ i + 1 ≤ plc n C (h + 1).toNat := by
  obtain ⟨m, hm⟩ := (begB n0 n9 i0 iN).mp c
  have e : plc n C h.toNat = i := by
    rcases Nat.lt_or_ge m h.toNat with q | q
    · have := hb m q
      omega
    · rcases (by omega : m = h.toNat ∨ h.toNat < m) with q2 | q2
      · rw [← q2]; exact hm
      · have := plc_m (n := n) (C := C) h.toNat (m - h.toNat)
        rw [show h.toNat + (m - h.toNat) = m by omega] at this
        omega
  refine ⟨e, fun a ha => ?_, ?_⟩
  · rcases (by omega : a < h.toNat ∨ a = h.toNat) with q | q
    · have := hb a q
      omega
    · rw [q, e]
      omega
  · have := plc_lt (n := n) (C := C) (a := h.toNat) (b := (h + 1).toNat) (by omega) (by omega)
    omega
theorem begF {n i h : Int} {C : Int → Int} (n0 : 0 ≤ n) (n9 : n ≤ 30) (i0 : 0 ≤ i) (iN : i < n) (hb : ∀ a : Nat, a < h.toNat → plc n C a < i) (hi : i ≤ plc n C h.toNat) (c : inB (beg n C) i = false) : (∀ a : Nat, a < h.toNat → plc n C a < i + 1) ∧ i + 1 ≤ plc n C h.toNat := by
  refine ⟨fun a ha => by have := hb a ha; omega, ?_⟩
  rcases (by omega : plc n C h.toNat = i ∨ i + 1 ≤ plc n C h.toNat) with q | q
  · have := (begB n0 n9 i0 iN).mpr ⟨_, q⟩
    rw [c] at this
    cases this
  · exact q
theorem pbg_no {n h k1 : Int} {C : Int → Int} (h0 : 0 ≤ h) (hk : k1 < 0 ∨ h ≤ k1) (hi : n ≤ plc n C h.toNat) : ¬ (0 ≤ k1 ∧ 0 ≤ pbg n C k1) := by
  rintro ⟨c1, c2⟩
  have := plc_m (n := n) (C := C) h.toNat (k1.toNat - h.toNat)
  rw [show h.toNat + (k1.toNat - h.toNat) = k1.toNat by omega] at this
  rw [pbg_f rfl (by omega)] at c2
  omega
/-- who stays when a text is mended -/
def mnd (n : Int) (C : Int → Int) (j : Int) : Bool := so (C j) (cond (decide (findI (fun i => so (C i) 11) 0 n < j)) 12 11)
theorem mnd_a {n i : Int} {C : Int → Int} (h : i ≤ findI (fun i => so (C i) 11) 0 n) : mnd n C i = so (C i) 11 := by
  unfold mnd
  rw [decide_eq_false (by omega)]
  rfl
theorem mnd_b {n i : Int} {C : Int → Int} (h : findI (fun i => so (C i) 11) 0 n < i) : mnd n C i = so (C i) 12 := by
  unfold mnd
  rw [decide_eq_true h]
  rfl
theorem mnd_t {n i : Int} {C : Int → Int} (i0 : 0 ≤ i) (h : i ≤ findI (fun i => so (C i) 11) 0 n) (c : so (C i) 11 = true) : findI (fun i => so (C i) 11) 0 n < i + 1 := by
  rcases (by omega : findI (fun i => so (C i) 11) 0 n < i + 1 ∨ i < findI (fun i => so (C i) 11) 0 n) with q | q
  · exact q
  · have this : so (C i) 11 = false := findI_no (P := fun i => so (C i) 11) i0 q
    rw [c] at this
    cases this
theorem mnd_f {n i : Int} {C : Int → Int} (i0 : 0 ≤ i) (iN : i < n) (h : i ≤ findI (fun i => so (C i) 11) 0 n) (c : so (C i) 11 = false) : i + 1 ≤ findI (fun i => so (C i) 11) 0 n := by
  rcases (by omega : findI (fun i => so (C i) 11) 0 n = i ∨ i + 1 ≤ findI (fun i => so (C i) 11) 0 n) with q | q
  · have := findI_yes (P := fun i => so (C i) 11) (i := 0) (n := n) (by omega) (by omega)
    rw [q] at this
    have this : so (C i) 11 = true := this
    rw [c] at this
    cases this
  · exact q
theorem mnd_cg {n : Int} {C D : Int → Int} (hn : 0 ≤ n) (h : tEq n C D) : ∀ j, 0 ≤ j → j < n → mnd n C j = mnd n D j := fun j j0 jn => by
  unfold mnd
  rw [h j j0 jn, findI_cg (Q := fun i => so (D i) 11) hn (fun i i0 iN => by show so (C i) 11 = _; rw [h i i0 iN])]
/-- some place is in the set -/
def inX (v : Int) : Prop := ∃ j, 0 ≤ j ∧ j < 32 ∧ inB v j = true
theorem inX_0 {v : Int} (h : inX v) : v ≠ 0 := fun e => by
  obtain ⟨j, _, _, hj⟩ := h
  rw [e, inB0] at hj
  cases hj
theorem inX_l {v x : Int} (h : inX v) : inX (bOr v x) := by
  obtain ⟨j, j0, j9, hj⟩ := h
  exact ⟨j, j0, j9, by rw [inB_or j0 j9, hj]; rfl⟩
theorem inX_r {v i : Int} (i0 : 0 ≤ i) (i9 : i < 32) : inX (bOr v (bShl 1 i)) := ⟨i, i0, i9, by rw [inB_or i0 i9, inB_sh i0 i9 i0 i9, decide_eq_true rfl, Bool.or_true]⟩
/-- what an act comes to: its answer, the text, how many it has then, its signs, acts and refusals more -/
abbrev oT : Type := Int × Int × Int × (Int → Int) × Int × Int
def oEq (x y : oT) : Prop := x.1 = y.1 ∧ x.2.1 = y.2.1 ∧ x.2.2.1 = y.2.2.1 ∧ tEq x.2.2.1 x.2.2.2.1 y.2.2.2.1 ∧ x.2.2.2.2.1 = y.2.2.2.2.1 ∧ x.2.2.2.2.2 = y.2.2.2.2.2
def acIns (n : Int → Int) (C : Int → Int → Int) (t p s : Int) : oT := if 30 ≤ n t then (-9, t, n t, C t, 0, 1) else (n t + 1, t, n t + 1, tins (n t) p s (C t), 1, 0)
def acPut (n : Int → Int) (C : Int → Int → Int) (t p s : Int) : oT := (C t p, t, n t, uF (C t) p s, 1, 0)
def acDrop (n : Int → Int) (C : Int → Int → Int) (t p : Int) : oT := (C t p, t, n t - 1, fun j => if j < p then C t j else C t (j + 1), 1, 0)
def acClear (n : Int → Int) (C : Int → Int → Int) (t : Int) : oT := (n t, t, 0, C t, 1, 0)
def acCopy (n : Int → Int) (C : Int → Int → Int) (t u : Int) : oT := (n t, u, n t, C t, 1, 0)
def acJoin (n : Int → Int) (C : Int → Int → Int) (t u : Int) : oT := if 30 < n t + n u then (-9, t, n t, C t, 0, 1) else (n t + n u, t, n t + n u, tapp (n t) (n u) (C u) (C t), 1, 0)
def acTurn (n : Int → Int) (C : Int → Int → Int) (t : Int) : oT := (if findI (fun j => decide (C t j ≠ C t (n t - 1 - j))) 0 (n t) < n t then 1 else 0, t, n t, fun j => C t (n t - 1 - j), 1, 0)
def acFill (n : Int → Int) (t f m : Int) : oT := (n t, t, m, fun j => f + j, 1, 0)
def acCut (C : Int → Int → Int) (t f g : Int) : oT := (g - f, t, g - f, fun j => C t (f + j), 1, 0)
def acSift (n : Int → Int) (C : Int → Int → Int) (t : Int) (P : Int → Bool) : oT := (n t - (sft P (n t) (C t)).1, t, (sft P (n t) (C t)).1, (sft P (n t) (C t)).2, 1, 0)
def acTake (n : Int → Int) (C : Int → Int → Int) (t k u : Int) : oT := (lon (n t) (C t) (pbg (n t) (C t) k), u, lon (n t) (C t) (pbg (n t) (C t) k), fun j => C t (pbg (n t) (C t) k + j), 1, 0)
/-- the class after an act -/
def aDo (M : kM) (x : oT) (z : Int) (M' : kM) : Prop := z = x.1 ∧ (∀ u : Int, 0 ≤ u → u < 3 → (M'.1 u = if u = x.2.1 then x.2.2.1 else M.1 u) ∧ tEq (M'.1 u) (M'.2.1 u) (if u = x.2.1 then x.2.2.2.1 else M.2.1 u)) ∧ M'.2.2.1 = M.2.2.1 + x.2.2.2.2.1 ∧ M'.2.2.2.1 = M.2.2.2.1 + x.2.2.2.2.2 ∧ M'.2.2.2.2 = M.2.2.2.2
theorem aDo.mk {M : kM} {x : oT} {z t n' n9 : Int} {D D9 : Int → Int} (e : x = (z, t, n', D, 1, 0)) (hn : n9 = n') (hD : tEq n' D9 D) : aDo M x z (fun j => if j = t then n9 else M.1 j, fun j => if j = t then D9 else M.2.1 j, M.2.2.1 + 1, M.2.2.2.1, M.2.2.2.2) := by
  subst e
  subst hn
  refine ⟨rfl, fun u _ _ => ⟨rfl, ?_⟩, rfl, (Int.add_zero _).symm, rfl⟩
  show tEq (if u = t then n9 else M.1 u) (if u = t then D9 else M.2.1 u) (if u = t then D else M.2.1 u)
  by_cases h : u = t
  · rw [if_pos h, if_pos h, if_pos h]; exact hD
  · rw [if_neg h, if_neg h, if_neg h]; exact tEq.rf
theorem aDo.no {M : kM} {x : oT} {t : Int} (e : x = (-9, t, M.1 t, M.2.1 t, 0, 1)) : aDo M x (-9) (M.1, M.2.1, M.2.2.1, M.2.2.2.1 + 1, M.2.2.2.2) := by
  subst e
  refine ⟨rfl, fun u _ _ => ⟨?_, ?_⟩, (Int.add_zero _).symm, rfl, rfl⟩
  · show M.1 u = if u = t then M.1 t else M.1 u
    by_cases h : u = t
    · rw [if_pos h, h]
    · rw [if_neg h]
  · show tEq (M.1 u) (M.2.1 u) (if u = t then M.2.1 t else M.2.1 u)
    by_cases h : u = t
    · rw [if_pos h, h]; exact tEq.rf
    · rw [if_neg h]; exact tEq.rf
/-- only the text t is other -/
def kK (M M1 : kM) (t : Int) : Prop := (∀ u, u ≠ t → M1.1 u = M.1 u ∧ M1.2.1 u = M.2.1 u) ∧ M1.2.2 = M.2.2
theorem kK.rf {M : kM} {t : Int} : kK M M t := ⟨fun _ _ => ⟨rfl, rfl⟩, rfl⟩
theorem kK.put {M M1 : kM} {t n' : Int} {C' : Int → Int} (h : kK M M1 t) : kK M (fun j => if j = t then n' else M1.1 j, fun j => if j = t then C' else M1.2.1 j, M1.2.2) t := ⟨fun u hu => ⟨(if_neg hu).trans (h.1 u hu).1, (if_neg hu).trans (h.1 u hu).2⟩, h.2⟩
theorem aDo.mk2 {M M1 : kM} {x : oT} {z t n' : Int} {D : Int → Int} (e : x = (z, t, n', D, 1, 0)) (hk : kK M M1 t) (hn : M1.1 t = n') (hD : tEq n' (M1.2.1 t) D) : aDo M x z (M1.1, M1.2.1, M1.2.2.1 + 1, M1.2.2.2.1, M1.2.2.2.2) := by
  subst e
  obtain ⟨h1, h2⟩ := hk
  refine ⟨rfl, fun u _ _ => ⟨?_, ?_⟩, by rw [h2], by rw [h2]; exact (Int.add_zero _).symm, by rw [h2]⟩
  · show M1.1 u = if u = t then n' else M.1 u
    by_cases h : u = t
    · rw [if_pos h, h]; exact hn
    · rw [if_neg h]; exact (h1 u h).1
  · show tEq (M1.1 u) (M1.2.1 u) (if u = t then D else M.2.1 u)
    by_cases h : u = t
    · rw [if_pos h, h, hn]; exact hD
    · rw [if_neg h, (h1 u h).2]; exact tEq.rf
theorem aDo.sift {M : kM} {t : Int} {P Q : Int → Bool} (hq : (sft P (M.1 t) (M.2.1 t)).1 = (sft Q (M.1 t) (M.2.1 t)).1 ∧ tEq (sft P (M.1 t) (M.2.1 t)).1 (sft P (M.1 t) (M.2.1 t)).2 (sft Q (M.1 t) (M.2.1 t)).2) : aDo M (acSift M.1 M.2.1 t Q) (M.1 t - (sft P (M.1 t) (M.2.1 t)).1) (fun j => if j = t then (sft P (M.1 t) (M.2.1 t)).1 else M.1 j, fun j => if j = t then (sft P (M.1 t) (M.2.1 t)).2 else M.2.1 j, M.2.2.1 + 1, M.2.2.2.1, M.2.2.2.2) :=
  aDo.mk (n' := (sft Q (M.1 t) (M.2.1 t)).1) (D := (sft Q (M.1 t) (M.2.1 t)).2) (by rw [hq.1]; rfl) hq.1 (by rw [← hq.1]; exact hq.2)
def kAct (G : gK) (w : wd) (K : kA) (M : kM) (x : oT) (z : Int) (w' : wd) : Prop := ∃ M' : kM, kS G w' K M' ∧ aDo M x z M' ∧ fr (kP K) w w'
