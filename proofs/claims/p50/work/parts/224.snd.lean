/-! the whole: what has to be so of a text, its checksum -/
theorem beg_cg {n : Int} {C D : Int → Int} (n0 : 0 ≤ n) (hc : tEq n C D) : beg n C = beg n D := by
  unfold beg
  rw [forI_cg (f := bgs n C) (g := bgs n D) n0 (fun j v j0 jn => by
    unfold bgs
    rw [lon_cg hc j0 jn])]
def namv (n : Int) (C : Int → Int) : Bool := decide (0 < n ∧ sb (C 0) = 0 ∧ lon n C 0 = n)
def fltv (n : Int) (C : Int → Int) : Int := if findI (fun j => !so (C j) (cond (decide (j = 0)) 11 12)) 0 n < n then findI (fun j => !so (C j) (cond (decide (j = 0)) 11 12)) 0 n else if n = 0 then 0 else -1
theorem namv_cg {n : Int} {C D : Int → Int} (hc : tEq n C D) : namv n C = namv n D := by
  unfold namv
  by_cases q : 0 < n
  · rw [hc 0 (Int.le_refl 0) q, lon_cg hc (Int.le_refl 0) q]
  · have f1 : ¬(0 < n ∧ sb (C 0) = 0 ∧ lon n C 0 = n) := fun z => q z.1
    have f2 : ¬(0 < n ∧ sb (D 0) = 0 ∧ lon n D 0 = n) := fun z => q z.1
    rw [decide_eq_false f1, decide_eq_false f2]
theorem fltv_cg {n : Int} {C D : Int → Int} (n0 : 0 ≤ n) (hc : tEq n C D) : fltv n C = fltv n D := by
  unfold fltv
  rw [findI_cg (P := fun j => !so (C j) (cond (decide (j = 0)) 11 12)) (Q := fun j => !so (D j) (cond (decide (j = 0)) 11 12)) n0 (fun j j0 jn => by show (!so (C j) _) = _; rw [hc j j0 jn])]
def bkV (n : Int) (C : Int → Int) (z : Int) : Prop := inr z ∧ ∃ h : Nat, bkM n C false h z ∧ bkc n C h = 0
def fwV (n : Int) (C : Int → Int) (z : Int) : Prop := ∃ B : Int → Int, fwP n C B ∧ z = B n
theorem bkV_u {n y z : Int} {C D : Int → Int} (n0 : 0 ≤ n) (hc : tEq n C D) (a : bkV n C y) (b : bkV n D z) : y = z := by
  obtain ⟨r1, h, a1, a2⟩ := a
  obtain ⟨r2, h2, b1, b2⟩ := b
  exact bkM_u n0 hc r1 r2 a1 a2 b1 b2
theorem fwV_u {n y z : Int} {C D : Int → Int} (n0 : 0 ≤ n) (hc : tEq n C D) (a : fwV n C y) (b : fwV n D z) : y = z := by
  obtain ⟨B, a1, a2⟩ := a
  obtain ⟨B2, b1, b2⟩ := b
  rw [a2, b2, fw_e hc n0 a1 b1]
theorem bkM_cg {n v : Int} {C D : Int → Int} {z : Bool} {h : Nat} (n0 : 0 ≤ n) (hc : tEq n C D) (a : bkM n C z h v) : bkM n D z h v := fun k k0 k9 => by
  rw [a k k0 k9]
  constructor
  · rintro ⟨c, m, m1, m2⟩
    exact ⟨c, m, m1, by rw [← bkc_cg n0 hc]; exact m2⟩
  · rintro ⟨c, m, m1, m2⟩
    exact ⟨c, m, m1, by rw [bkc_cg n0 hc]; exact m2⟩
theorem bkV_cg {n z : Int} {C D : Int → Int} (n0 : 0 ≤ n) (hc : tEq n C D) (a : bkV n C z) : bkV n D z := by
  obtain ⟨r1, h, a1, a2⟩ := a
  exact ⟨r1, h, bkM_cg n0 hc a1, by rw [← bkc_cg n0 hc]; exact a2⟩
theorem fwP_cg {n : Int} {C D B : Int → Int} (hc : tEq n C D) (a : fwP n C B) : fwP n D B := by
  refine ⟨a.1, fun e e1 en => ?_⟩
  obtain ⟨⟨g, g0, g1, g2, g3⟩, b⟩ := a.2 e e1 en
  exact ⟨⟨g, g0, g1, by rw [← lon_cg hc g0 (by omega)]; exact g2, g3⟩, fun g g0 g1 g2 => b g g0 g1 (by rw [lon_cg hc g0 (by omega)]; exact g2)⟩
theorem fwV_cg {n z : Int} {C D : Int → Int} (hc : tEq n C D) (a : fwV n C z) : fwV n D z := by
  obtain ⟨B, a1, a2⟩ := a
  exact ⟨B, fwP_cg hc a1, a2⟩
/-- what has to be so of a text -/
def SND (n : Int) (C : Int → Int) : Prop := (∀ z, bkV n C z → bAnd (beg n C) (-2) = z) ∧ (∀ z, fwV n C z → bcn (beg n C) = z) ∧ bcn (beg n C) = ptI n C (bAnd (beg n C) (-2)) 1 0 0 ∧ namv n C = decide (fltv n C = -1)
theorem SND_1 {n : Int} {C D : Int → Int} (n0 : 0 ≤ n) (hc : tEq n C D) (h : SND n C) : SND n D := by
  obtain ⟨a, b, c, d⟩ := h
  have e := beg_cg n0 hc
  refine ⟨fun z hz => by rw [← e]; exact a z (bkV_cg n0 hc.sm hz), fun z hz => by rw [← e]; exact b z (fwV_cg hc.sm hz), by rw [← e, ← ptI_cg hc]; exact c, by rw [← namv_cg hc, ← fltv_cg n0 hc]; exact d⟩
theorem SND_cg {n : Int} {C D : Int → Int} (n0 : 0 ≤ n) (hc : tEq n C D) : SND n C ↔ SND n D := ⟨SND_1 n0 hc, SND_1 n0 hc.sm⟩
/-- .. out of what the class finds -/
theorem SND_t {n y z : Int} {C : Int → Int} (n0 : 0 ≤ n) (hy : bkV n C y) (hz : fwV n C z) (a : bAnd (beg n C) (-2) = y) (b : bcn (beg n C) = z) (c : bcn (beg n C) = ptI n C (bAnd (beg n C) (-2)) 1 0 0) (d : namv n C = decide (fltv n C = -1)) : SND n C :=
  ⟨fun u hu => a.trans (bkV_u n0 tEq.rf hy hu), fun u hu => b.trans (fwV_u n0 tEq.rf hz hu), c, d⟩
/-- what the reference counts is what the class counts -/
theorem pcs_v {n z : Int} {C : Int → Int} (n0 : 0 ≤ n) (n9 : n ≤ 30) (hz : ∃ a : Nat, plN n C a ∧ z = (a : Int)) : bcn (beg n C) = z := by
  obtain ⟨a, ha, hz⟩ := hz
  obtain ⟨b, hb, hy⟩ := bcn_beg (C := C) n0 n9
  rw [hy, hz, plN_u n0 tEq.rf hb ha]
theorem cts_v {n z : Int} {C : Int → Int} (n0 : 0 ≤ n) (n9 : n ≤ 30) (hr : inr z) (hz : ∃ a : Nat, plN n C a ∧ plM n C a z) : bAnd (beg n C) (-2) = z := by
  obtain ⟨a, ha, hm⟩ := hz
  obtain ⟨b, hb, hy⟩ := begM (C := C) n0 n9
  exact plM_u n0 tEq.rf (bAnd_in _ _) hr hb hy ha hm
/-! every sign has just one kind -/
theorem forF_e {σ : Type} {f : Int → σ → σ} : ∀ (k : Nat) (i : Int) (v : σ), forF f (k + 1) i v = f (i + (k : Int)) (forF f k i v)
  | 0, i, v => by
    show f i v = f (i + ((0 : Nat) : Int)) v
    rw [show i + ((0 : Nat) : Int) = i by omega]
  | k + 1, i, v => by
    show forF f (k + 1) (i + 1) (f i v) = f (i + ((k + 1 : Nat) : Int)) (forF f k (i + 1) (f i v))
    rw [forF_e k (i + 1) (f i v), show i + 1 + (k : Int) = i + ((k + 1 : Nat) : Int) by omega]
theorem forI_e1 {σ : Type} {f : Int → σ → σ} {i n : Int} {v : σ} (h : i ≤ n) : forI f i (n + 1) v = f n (forI f i n v) := by
  unfold forI
  rw [show (n + 1 - i).toNat = (n - i).toNat + 1 by omega, forF_e, show i + (((n - i).toNat : Nat) : Int) = n by omega]
def ksum (F : Int → Int) : Int := forI (fun k v => v + F k) 0 31 0
theorem ksum_a {F : Int → Int} {a : Int} (a0 : 0 ≤ a) (a9 : a ≤ 30) : ksum (fun k => F k + (if a = k then 1 else 0)) = ksum F + 1 := by
  have h := forI_rel (f := fun k v => v + (F k + (if a = k then 1 else 0))) (g := fun k v => v + F k) (R := fun i v w => v = w + (if a < i then 1 else 0)) (i := 0) (n := 31) (by decide) (v := (0 : Int)) (w := (0 : Int)) (by show (0 : Int) = 0 + (if a < 0 then 1 else 0); rw [if_neg (by omega)]; rfl) (fun i v w i0 i9 e => by
    have e : v = w + (if a < i then 1 else 0) := e
    show v + (F i + (if a = i then 1 else 0)) = w + F i + (if a < i + 1 then 1 else 0)
    rw [e]
    by_cases c : a = i
    · rw [if_pos c, if_neg (by omega), if_pos (by omega)]
      omega
    · rw [if_neg c]
      by_cases c2 : a < i
      · rw [if_pos c2, if_pos (by omega)]
        omega
      · rw [if_neg c2, if_neg (by omega)]
        omega)
  have h : ksum (fun k => F k + (if a = k then 1 else 0)) = ksum F + (if a < 31 then 1 else 0) := h
  rw [h, if_pos (by omega)]
theorem kn_sum : ∀ N : Nat, ksum (fun k => forI (cst (fun c => decide (kin c = k))) 0 (N : Int) 0) = (N : Int)
  | 0 => by
    have e : (fun k : Int => forI (cst (fun c => decide (kin c = k))) 0 ((0 : Nat) : Int) 0) = fun _ => (0 : Int) := funext fun k => forI_e (Int.le_refl 0)
    rw [e]
    decide +kernel
  | N + 1 => by
    have e : (fun k : Int => forI (cst (fun c => decide (kin c = k))) 0 ((N + 1 : Nat) : Int) 0) = fun k => forI (cst (fun c => decide (kin c = k))) 0 (N : Int) 0 + (if kin (N : Int) = k then 1 else 0) := funext fun k => by
      rw [show ((N + 1 : Nat) : Int) = (N : Int) + 1 by omega, forI_e1 (by omega)]
      by_cases c : kin (N : Int) = k
      · rw [cst_t (decide_eq_true c), if_pos c]
      · rw [cst_f (decide_eq_false c), if_neg c, Int.add_zero]
    rw [e, ksum_a (kin_in _).1 (kin_in _).2, kn_sum N]
    omega
theorem kn_all : ksum (fun k => forI (cst (fun c => decide (kin c = k))) 0 (255 + 1) 0) = 256 := kn_sum 256
/-! the checksum -/
def dmx (d : Int64) (v : Int) : Int64 := d * 31 + (zI v).toInt64
def dgc (C : Int → Int) (j : Int) (d : Int64) : Int64 := dmx (dmx d (C j)) (kin (C j))
def dgC (n : Int) (C : Int → Int) (d : Int64) : Int64 := forI (dgc C) 0 n d
def dgq (n : Int) (C : Int → Int) (q : Int) (d : Int64) : Int64 := dmx d (forI (cst (fun j => so (C j) q)) 0 n 0)
def dgQ (n : Int) (C : Int → Int) (d : Int64) : Int64 := forI (dgq n C) 0 14 d
noncomputable def fwz (n : Int) (C : Int → Int) : Int := Classical.epsilon (fun z => fwV n C z)
theorem fwz_v {n z : Int} {C : Int → Int} (n0 : 0 ≤ n) (h : fwV n C z) : fwz n C = z := fwV_u n0 tEq.rf (Classical.epsilon_spec (p := fun z => fwV n C z) ⟨z, h⟩) h
noncomputable def dgT (n : Int) (C : Int → Int) (d : Int64) : Int64 := dmx (dmx (dmx (dmx (dgQ n C (dgC n C (dmx d n))) (fltv n C)) (bcn (beg n C))) (bAnd (beg n C) (-2))) (fwz n C)
theorem dgT_cg {n : Int} {C D : Int → Int} {d : Int64} (n0 : 0 ≤ n) (hc : tEq n C D) : dgT n C d = dgT n D d := by
  have e1 : ∀ x, dgC n C x = dgC n D x := fun x => forI_cg n0 (fun j v j0 jn => by unfold dgc; rw [hc j j0 jn])
  have e2 : ∀ x, dgQ n C x = dgQ n D x := fun x => forI_cg (by decide) (fun q v q0 q9 => by unfold dgq; rw [cst_cg (P := fun j => so (C j) q) (Q := fun j => so (D j) q) n0 (fun j j0 jn => by show so (C j) q = so (D j) q; rw [hc j j0 jn])])
  have e3 : fwz n C = fwz n D := congrArg Classical.epsilon (funext fun z => propext ⟨fwV_cg hc, fwV_cg hc.sm⟩)
  unfold dgT
  rw [e1, e2, e3, fltv_cg n0 hc, beg_cg n0 hc]
/-- one more for whom it is so -/
theorem all_s {P : Int → Prop} {o p q : Bool} {i : Int} (i0 : 0 ≤ i) (ho : o = true ↔ ∀ j, 0 ≤ j → j < i → P j) (hq : q = true ↔ P i) (hp : p = o) : ((p && q) = true ↔ ∀ j, 0 ≤ j → j < i + 1 → P j) := by
  rw [Bool.and_eq_true, hp, ho, hq]
  constructor
  · rintro ⟨a, b⟩ j j0 j1
    rcases (by omega : j < i ∨ j = i) with c | c
    · exact a j j0 c
    · rw [c]; exact b
  · intro a
    exact ⟨fun j j0 j1 => a j j0 (by omega), a i i0 (by omega)⟩
