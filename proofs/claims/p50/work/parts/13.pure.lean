/-! pure words: loops as functions, what is so of signs, the state of a text -/
def forF {σ : Type} (f : Int → σ → σ) : Nat → Int → σ → σ
  | 0, _, v => v
  | k + 1, i, v => forF f k (i + 1) (f i v)
def forI {σ : Type} (f : Int → σ → σ) (i n : Int) (v : σ) : σ := forF f (n - i).toNat i v
theorem forI_s {σ : Type} {f : Int → σ → σ} {i n : Int} {v : σ} (h : i < n) : forI f i n v = forI f (i + 1) n (f i v) := by
  unfold forI
  have e : (n - i).toNat = (n - (i + 1)).toNat + 1 := by omega
  rw [e]
  rfl
theorem forI_e {σ : Type} {f : Int → σ → σ} {i n : Int} {v : σ} (h : n ≤ i) : forI f i n v = v := by
  unfold forI
  have e : (n - i).toNat = 0 := by omega
  rw [e]
  rfl
def findF (P : Int → Bool) : Nat → Int → Int
  | 0, i => i
  | k + 1, i => match P i with
    | true => i
    | false => findF P k (i + 1)
def findI (P : Int → Bool) (i n : Int) : Int := findF P (n - i).toNat i
theorem findI_h {P : Int → Bool} {i n : Int} (hp : P i = true) : findI P i n = i := by
  unfold findI
  cases (n - i).toNat with
  | zero => rfl
  | succ k => show (match P i with | true => i | false => findF P k (i + 1)) = i; rw [hp]
theorem findI_m {P : Int → Bool} {i n : Int} (h : i < n) (hp : P i = false) : findI P i n = findI P (i + 1) n := by
  unfold findI
  have e : (n - i).toNat = (n - (i + 1)).toNat + 1 := by omega
  rw [e]
  show (match P i with | true => i | false => findF P _ (i + 1)) = _
  rw [hp]
theorem findI_e {P : Int → Bool} {i n : Int} (h : n ≤ i) : findI P i n = i := by
  unfold findI
  have e : (n - i).toNat = 0 := by omega
  rw [e]
  rfl
theorem findF_in {P : Int → Bool} : ∀ (k : Nat) (i : Int), i ≤ findF P k i ∧ findF P k i ≤ i + (k : Int)
  | 0, i => ⟨Int.le_refl _, by show i ≤ i + ((0 : Nat) : Int); omega⟩
  | k + 1, i => by
    show i ≤ (match P i with | true => i | false => findF P k (i + 1)) ∧ (match P i with | true => i | false => findF P k (i + 1)) ≤ i + ((k + 1 : Nat) : Int)
    have h := findF_in (P := P) k (i + 1)
    cases P i with
    | true => exact ⟨Int.le_refl _, by show i ≤ i + ((k + 1 : Nat) : Int); omega⟩
    | false => exact ⟨by show i ≤ findF P k (i + 1); omega, by show findF P k (i + 1) ≤ i + ((k + 1 : Nat) : Int); omega⟩
theorem findI_in {P : Int → Bool} {i n : Int} (h : i ≤ n) : i ≤ findI P i n ∧ findI P i n ≤ n := by
  have h1 := findF_in (P := P) (n - i).toNat i
  unfold findI
  omega
/-! signs -/
def inB (m c : Int) : Bool := decide (bAnd (bShr m c) 1 = 1)
def blk (c : Int) : Bool := (decide (9 ≤ c) && decide (c ≤ 13)) || (decide (28 ≤ c) && decide (c ≤ 32))
def so (c q : Int) : Bool :=
  if q = 7 then blk c else if q = 10 then (inB (kq q) (kin c) || (decide (c = 60) || decide (c = 62))) else if q = 12 then (inB (kq q) (kin c) && !blk c) else if q = 13 then (inB (kq q) (kin c) && !blk c) else inB (kq q) (kin c)
def sb (c : Int) : Int := if so c 11 = true then 0 else if so c 2 = true then 1 else if so c 7 = true then 2 else if so c 14 = true then 3 else 4
def oth (s : Int) : Int := os5 s
theorem kin_in (c : Int) : 0 ≤ kin c ∧ kin c ≤ 30 := by
  have h : ∀ x ∈ kinL, 0 ≤ x ∧ x ≤ 30 := by decide +kernel
  unfold kin
  rcases Nat.lt_or_ge c.toNat kinL.length with q | q
  · rw [List.getD_eq_getElem?_getD, List.getElem?_eq_getElem q]
    exact h _ (List.getElem_mem q)
  · rw [List.getD_eq_getElem?_getD, List.getElem?_eq_none q]
    decide
theorem sb_in (c : Int) : 0 ≤ sb c ∧ sb c ≤ 4 := by
  unfold sb
  split
  · omega
  · split
    · omega
    · split
      · omega
      · split <;> omega
theorem oth_in {s : Int} (h1 : 0 ≤ s) (h2 : s ≤ 4) : 0 ≤ oth s ∧ oth s ≤ 14 := by
  rcases (by omega : s = 0 ∨ s = 1 ∨ s = 2 ∨ s = 3 ∨ s = 4) with h | h | h | h | h <;> subst h <;> decide
theorem fs4_in {s : Int} (h1 : 0 ≤ s) (h2 : s ≤ 3) : 0 ≤ fs4 s ∧ fs4 s ≤ 14 := by
  rcases (by omega : s = 0 ∨ s = 1 ∨ s = 2 ∨ s = 3) with h | h | h | h <;> subst h <;> decide
theorem bAnd1 (x : Int) : bAnd x 1 = 0 ∨ bAnd x 1 = 1 := by
  unfold bAnd
  rw [pk_and (zI x) (m := zI 1) 1 (by decide +kernel)]
  have h : (zI x).toBitVec.toNat % 2 ^ 1 = 0 ∨ (zI x).toBitVec.toNat % 2 ^ 1 = 1 := by omega
  rcases h with h | h <;> rw [h] <;> decide
theorem bAnd1_in (x : Int) : inr (bAnd x 1) := by rcases bAnd1 x with h | h <;> rw [h] <;> exact ⟨by decide, by decide⟩
theorem bAnd_in (x y : Int) : inr (bAnd x y) := ⟨Int32.le_toInt _, by have := Int32.toInt_lt (zI x &&& zI y); unfold bAnd; omega⟩
theorem bOr_in (x y : Int) : inr (bOr x y) := ⟨Int32.le_toInt _, by have := Int32.toInt_lt (zI x ||| zI y); unfold bOr; omega⟩
theorem bShl_in (x y : Int) : inr (bShl x y) := ⟨Int32.le_toInt _, by have := Int32.toInt_lt (zI x <<< (zI y &&& 31)); unfold bShl; omega⟩
theorem bXor_in (x y : Int) : inr (bXor x y) := ⟨Int32.le_toInt _, by have := Int32.toInt_lt (zI x ^^^ zI y); unfold bXor; omega⟩
theorem inB_v (m c : Int) : b2 (inB m c) = bAnd (bShr m c) 1 := by
  unfold inB
  rcases bAnd1 (bShr m c) with h | h <;> rw [h] <;> decide
/-- a sign as a byte, and back -/
theorem sgn_byte {c : Int} (h1 : 0 ≤ c) (h2 : c ≤ 255) : bAnd (bB c) 255 = c := by
  have h : ∀ k : Fin 256, bAnd (bB ((k.val : Nat) : Int)) 255 = ((k.val : Nat) : Int) := by decide +kernel
  have e := h ⟨c.toNat, by omega⟩
  have e2 : ((c.toNat : Nat) : Int) = c := Int.toNat_of_nonneg h1
  rw [e2] at e
  exact e
theorem bB_bB {c : Int} : bB (bB c) = bB c := by
  have h : narrow .byte (.int (zI (bB c))) = .int (zI (bB c)) := by rw [zI_bB]; exact pk_nb (zI c)
  have h2 : (Value.int (zI (bB (bB c)))) = .int (zI (bB c)) := g_nb.symm.trans h
  have h3 : zI (bB (bB c)) = zI (bB c) := Value.int.inj h2
  have h4 : (bB (bB c)) = (zI (bB (bB c))).toInt := by rw [zI_bB]; rfl
  rw [h4, h3, zI_bB]
  rfl
/-! a text: its object at a, its row at r, its own row of ints at bb; n signs, C place by place -/
def sgF (C : Int → Int) : Int → Int := fun j => bB (C j)
def tX (G : gK) (w : wd) (a r bb : Nat) (n : Int) (C B : Int → Int) : Prop :=
  w a = some (eO 2 [rv r, iv n, rv bb]) ∧ w r = some (eB G 30 (sgF C)) ∧ w bb = some (eI G 31 B) ∧ 0 ≤ n ∧ n ≤ 30 ∧ ∀ j, 0 ≤ C j ∧ C j ≤ 255
/-- how long the longest piece at p is -/
def lon (n : Int) (C : Int → Int) (p : Int) : Int := findI (fun e => !so (C e) (oth (sb (C p)))) (p + 1) n - p
theorem lon_in {n : Int} {C : Int → Int} {p : Int} (h : p < n) : 1 ≤ lon n C p ∧ lon n C p ≤ n - p := by
  have := findI_in (P := fun e => !so (C e) (oth (sb (C p)))) (i := p + 1) (n := n) (by omega)
  unfold lon
  omega
def mstep (P : Int → Bool) (i v : Int) : Int := if P i = true then bOr v (bShl 1 i) else v
theorem mstep_t {P : Int → Bool} {i v : Int} (h : P i = true) : mstep P i v = bOr v (bShl 1 i) := if_pos h
theorem mstep_f {P : Int → Bool} {i v : Int} (h : P i = false) : mstep P i v = v := if_neg (by rw [h]; decide)
/-- the places below n at which P holds, as a set of bits -/
def msk (P : Int → Bool) (n : Int) : Int := forI (mstep P) 0 n 0
theorem so10 {c q : Int} (h : q = 10) : so c q = (inB (kq q) (kin c) || (decide (c = 60) || decide (c = 62))) := by subst h; rfl
theorem so12 {c q : Int} (h : q = 12 ∨ q = 13) : so c q = (inB (kq q) (kin c) && !blk c) := by rcases h with h | h <;> subst h <;> rfl
theorem so_o {c q : Int} (h1 : q ≠ 7) (h2 : q ≠ 10) (h3 : q ≠ 12) (h4 : q ≠ 13) : so c q = inB (kq q) (kin c) := by
  unfold so
  rw [if_neg h1, if_neg h2, if_neg h3, if_neg h4]
theorem sb_is {c i : Int} (h0 : 0 ≤ i) (h4 : i < 4) (hf : ∀ j, 0 ≤ j → j < i → so c (fs4 j) = false) (ht : so c (fs4 i) = true) : sb c = i := by
  have e0 : fs4 0 = 11 := by decide
  have e1 : fs4 1 = 2 := by decide
  have e2 : fs4 2 = 7 := by decide
  have e3 : fs4 3 = 14 := by decide
  unfold sb
  rcases (by omega : i = 0 ∨ i = 1 ∨ i = 2 ∨ i = 3) with h | h | h | h <;> subst h
  · rw [e0] at ht; simp [ht]
  · have f0 := hf 0 (by omega) (by omega); rw [e0] at f0; rw [e1] at ht; simp [ht, f0]
  · have f0 := hf 0 (by omega) (by omega); have f1 := hf 1 (by omega) (by omega); rw [e0] at f0; rw [e1] at f1; rw [e2] at ht; simp [ht, f0, f1]
  · have f0 := hf 0 (by omega) (by omega); have f1 := hf 1 (by omega) (by omega); have f2 := hf 2 (by omega) (by omega); rw [e0] at f0; rw [e1] at f1; rw [e2] at f2; rw [e3] at ht; simp [ht, f0, f1, f2]
theorem sb_no {c : Int} (hf : ∀ j, 0 ≤ j → j < 4 → so c (fs4 j) = false) : sb c = 4 := by
  have f0 := hf 0 (by omega) (by omega)
  have f1 := hf 1 (by omega) (by omega)
  have f2 := hf 2 (by omega) (by omega)
  have f3 := hf 3 (by omega) (by omega)
  rw [show fs4 0 = 11 by decide] at f0
  rw [show fs4 1 = 2 by decide] at f1
  rw [show fs4 2 = 7 by decide] at f2
  rw [show fs4 3 = 14 by decide] at f3
  unfold sb
  simp [f0, f1, f2, f3]
section GP
variable {b : gBt} {l : Launch} {s0 : State} {G : gK} {cc : ByteArray} {own : String} {nL : Nat} {rm : Room} {k n pc : Nat} {L : List (Nat × Value)} {st : List Value} {w : wd}
theorem x_ib (q : Bool) (Z : gAm b l s0 G cc own nL rm) {z : Int} (d : decode cc pc = .ok (.iconst z, 1)) (hz : z = b2 q) (kk : gX b s0 G k n (pc + 1) L (iv (b2 q) :: st) w) : gX b s0 G k n pc L st w := by
  subst hz
  exact x_iconst Z d kk
end GP
