section
/-! the reference: object, kinds, row of rows, sizes; text by text its row -/
abbrev rA : Type := Nat × Nat × Nat × Nat
abbrev rM : Type := (Int → Nat) × (Int → Int) × (Int → Int → Int) × Int × Int × Int × Int
def rP (R : rA) (ro : Int → Nat) : Nat → Prop := fun q => q = R.1 ∨ q = R.2.1 ∨ q = R.2.2.1 ∨ q = R.2.2.2 ∨ ∃ i : Int, 0 ≤ i ∧ i < 3 ∧ q = ro i
def rS (G : gK) (w : wd) (R : rA) (S : rM) : Prop :=
  w R.1 = some (eO 5 [rv R.2.1, rv R.2.2.1, rv R.2.2.2, iv S.2.2.2.1, iv S.2.2.2.2.1, iv S.2.2.2.2.2.1, iv S.2.2.2.2.2.2]) ∧ w R.2.1 = some (eI G 256 kin) ∧ (∃ f, w R.2.2.1 = some (eR G 3 f) ∧ ∀ i : Int, 0 ≤ i → i < 3 → f i = some (S.1 i)) ∧ w R.2.2.2 = some (eI G 3 S.2.1) ∧ (∀ i : Int, 0 ≤ i → i < 3 → w (S.1 i) = some (eI G 30 (S.2.2.1 i)) ∧ 0 ≤ S.2.1 i ∧ S.2.1 i ≤ 30 ∧ ∀ j, 0 ≤ S.2.2.1 i j ∧ S.2.2.1 i j ≤ 255) ∧ (∀ i j : Int, 0 ≤ i → i < 3 → 0 ≤ j → j < 3 → i ≠ j → S.1 i ≠ S.1 j)
theorem rS.row {G : gK} {w : wd} {R : rA} {S : rM} {t p x : Int} (h : rS G w R S) (t0 : 0 ≤ t) (t3 : t < 3) (x0 : 0 ≤ x) (x9 : x ≤ 255) : rS G (ws1 w (S.1 t) (eI G 30 (uF (S.2.2.1 t) p x))) R (S.1, S.2.1, fun i => if i = t then uF (S.2.2.1 t) p x else S.2.2.1 i, S.2.2.2) := by
  obtain ⟨a1, a2, ⟨f, a3, a4⟩, a5, a6, a7⟩ := h
  obtain ⟨b1, b2, b3, b4⟩ := a6 t t0 t3
  refine ⟨by rw [ws1_n (tne 1000005 60 a1 b1 rfl rfl (by decide))]; exact a1, by rw [ws1_n (tne 512 60 a2 b1 rfl rfl (by decide))]; exact a2, ⟨f, by rw [ws1_n (tne 7 60 a3 b1 rfl rfl (by decide))]; exact a3, a4⟩, by rw [ws1_n (tne 6 60 a5 b1 rfl rfl (by decide))]; exact a5, ?_, a7⟩
  intro i i0 i3
  by_cases e : i = t
  · subst e
    refine ⟨by show ws1 w (S.1 i) _ (S.1 i) = some (eI G 30 (if i = i then _ else _)); rw [ws1_s, if_pos rfl], b2, b3, fun j => ?_⟩
    show 0 ≤ (if i = i then uF (S.2.2.1 i) p x else S.2.2.1 i) j ∧ (if i = i then uF (S.2.2.1 i) p x else S.2.2.1 i) j ≤ 255
    rw [if_pos rfl]
    unfold uF
    split
    · exact ⟨x0, x9⟩
    · exact b4 j
  · obtain ⟨c1, c2, c3, c4⟩ := a6 i i0 i3
    refine ⟨by show ws1 w (S.1 t) _ (S.1 i) = some (eI G 30 (if i = t then _ else _)); rw [ws1_n (a7 i t i0 i3 t0 t3 e), if_neg e]; exact c1, c2, c3, fun j => ?_⟩
    show 0 ≤ (if i = t then uF (S.2.2.1 t) p x else S.2.2.1 i) j ∧ (if i = t then uF (S.2.2.1 t) p x else S.2.2.1 i) j ≤ 255
    rw [if_neg e]
    exact c4 j
theorem rS.siz {G : gK} {w : wd} {R : rA} {S : rM} {t x : Int} (h : rS G w R S) (x0 : 0 ≤ x) (x9 : x ≤ 30) : rS G (ws1 w R.2.2.2 (eI G 3 (uF S.2.1 t x))) R (S.1, uF S.2.1 t x, S.2.2) := by
  obtain ⟨a1, a2, ⟨f, a3, a4⟩, a5, a6, a7⟩ := h
  refine ⟨by rw [ws1_n (tne 1000005 6 a1 a5 rfl rfl (by decide))]; exact a1, by rw [ws1_n (tne 512 6 a2 a5 rfl rfl (by decide))]; exact a2, ⟨f, by rw [ws1_n (tne 7 6 a3 a5 rfl rfl (by decide))]; exact a3, a4⟩, ws1_s, ?_, a7⟩
  intro i i0 i3
  obtain ⟨c1, c2, c3, c4⟩ := a6 i i0 i3
  refine ⟨by rw [ws1_n (tne 60 6 c1 a5 rfl rfl (by decide))]; exact c1, ?_, ?_, c4⟩
  · show 0 ≤ (if i = t then x else S.2.1 i)
    split <;> assumption
  · show (if i = t then x else S.2.1 i) ≤ 30
    split <;> assumption
theorem rS.obj {G : gK} {w : wd} {R : rA} {S : rM} (h : rS G w R S) (x y z u : Int) : rS G (ws1 w R.1 (eO 5 [rv R.2.1, rv R.2.2.1, rv R.2.2.2, iv x, iv y, iv z, iv u])) R (S.1, S.2.1, S.2.2.1, x, y, z, u) := by
  obtain ⟨a1, a2, ⟨f, a3, a4⟩, a5, a6, a7⟩ := h
  refine ⟨ws1_s, by rw [ws1_n (tne 512 1000005 a2 a1 rfl rfl (by decide))]; exact a2, ⟨f, by rw [ws1_n (tne 7 1000005 a3 a1 rfl rfl (by decide))]; exact a3, a4⟩, by rw [ws1_n (tne 6 1000005 a5 a1 rfl rfl (by decide))]; exact a5, ?_, a7⟩
  intro i i0 i3
  obtain ⟨c1, c2⟩ := a6 i i0 i3
  exact ⟨by rw [ws1_n (tne 60 1000005 c1 a1 rfl rfl (by decide))]; exact c1, c2⟩
theorem rS.frm {G : gK} {w w' : wd} {P : Nat → Prop} {R : rA} {S : rM} (h : rS G w R S) (hf : fr P w w') (hd : ∀ q, rP R S.1 q → ¬ P q) : rS G w' R S := by
  obtain ⟨a1, a2, ⟨f, a3, a4⟩, a5, a6, a7⟩ := h
  refine ⟨hf.at (hd _ (Or.inl rfl)) a1, hf.at (hd _ (Or.inr (Or.inl rfl))) a2, ⟨f, hf.at (hd _ (Or.inr (Or.inr (Or.inl rfl)))) a3, a4⟩, hf.at (hd _ (Or.inr (Or.inr (Or.inr (Or.inl rfl))))) a5, fun i i0 i3 => ?_, a7⟩
  obtain ⟨c1, c2⟩ := a6 i i0 i3
  exact ⟨hf.at (hd _ (Or.inr (Or.inr (Or.inr (Or.inr ⟨i, i0, i3, rfl⟩))))) c1, c2⟩
theorem rS.nn {G : gK} {w : wd} {R : rA} {S : rM} (h : rS G w R S) : ∀ q, rP R S.1 q → w q ≠ none := by
  obtain ⟨a1, a2, ⟨f, a3, a4⟩, a5, a6, a7⟩ := h
  rintro q (z | z | z | z | ⟨i, i0, i3, z⟩)
  · rw [z, a1]; intro h; cases h
  · rw [z, a2]; intro h; cases h
  · rw [z, a3]; intro h; cases h
  · rw [z, a5]; intro h; cases h
  · rw [z, (a6 i i0 i3).1]; intro h; cases h
/-- a new row in place of an old one -/
theorem rS.rep {G : gK} {w : wd} {R : rA} {S : rM} {t : Int} {q : Nat} {D : Int → Int} {f : Int → Option Nat} (h : rS G w R S) (t0 : 0 ≤ t) (t3 : t < 3) (hf : w R.2.2.1 = some (eR G 3 f)) (hq : w q = some (eI G 30 D)) (hD : ∀ j, 0 ≤ D j ∧ D j ≤ 255) (hn : ∀ i : Int, 0 ≤ i → i < 3 → S.1 i ≠ q) : rS G (ws1 w R.2.2.1 (eR G 3 (uQ f t (some q)))) R (fun i => if i = t then q else S.1 i, S.2.1, fun i => if i = t then D else S.2.2.1 i, S.2.2.2) := by
  obtain ⟨a1, a2, ⟨f', a3, a4⟩, a5, a6, a7⟩ := h
  have hff : ∀ i : Int, 0 ≤ i → i < 3 → f i = some (S.1 i) := by
    intro i i0 i3
    have e := a3.symm.trans hf
    have e2 : eR G 3 f' = eR G 3 f := Option.some.inj e
    unfold eR eQ at e2
    injection e2 with e2
    injection e2 with e3 e4
    injection e4 with e5 e6
    injection e6 with e6
    injection e6 with e6
    injection e6 with e6
    injection e6 with e6
    have e7 := congrFun e6 i.toNat
    have e8 : ((i.toNat : Nat) : Int) = i := Int.toNat_of_nonneg i0
    rw [e8] at e7
    rw [← e7]
    exact a4 i i0 i3
  refine ⟨by rw [ws1_n (tne 1000005 7 a1 hf rfl rfl (by decide))]; exact a1, by rw [ws1_n (tne 512 7 a2 hf rfl rfl (by decide))]; exact a2, ⟨_, ws1_s, fun i i0 i3 => ?_⟩, by rw [ws1_n (tne 6 7 a5 hf rfl rfl (by decide))]; exact a5, ?_, ?_⟩
  · show (if i = t then some q else f i) = some (if i = t then q else S.1 i)
    by_cases e : i = t
    · rw [if_pos e, if_pos e]
    · rw [if_neg e, if_neg e]
      exact hff i i0 i3
  · intro i i0 i3
    obtain ⟨c1, c2, c3, c4⟩ := a6 i i0 i3
    by_cases e : i = t
    · refine ⟨?_, c2, c3, ?_⟩
      · show ws1 w R.2.2.1 _ (if i = t then q else S.1 i) = some (eI G 30 (if i = t then D else S.2.2.1 i))
        rw [if_pos e, if_pos e, ws1_n (tne 60 7 hq hf rfl rfl (by decide))]
        exact hq
      · show ∀ j, 0 ≤ (if i = t then D else S.2.2.1 i) j ∧ (if i = t then D else S.2.2.1 i) j ≤ 255
        rw [if_pos e]
        exact hD
    · refine ⟨?_, c2, c3, ?_⟩
      · show ws1 w R.2.2.1 _ (if i = t then q else S.1 i) = some (eI G 30 (if i = t then D else S.2.2.1 i))
        rw [if_neg e, if_neg e, ws1_n (tne 60 7 c1 hf rfl rfl (by decide))]
        exact c1
      · show ∀ j, 0 ≤ (if i = t then D else S.2.2.1 i) j ∧ (if i = t then D else S.2.2.1 i) j ≤ 255
        rw [if_neg e]
        exact c4
  · intro i j i0 i3 j0 j3 hij
    show (if i = t then q else S.1 i) ≠ (if j = t then q else S.1 j)
    by_cases e : i = t
    · rw [if_pos e, if_neg (fun z => hij (e.trans z.symm))]
      exact fun z => hn j j0 j3 z.symm
    · rw [if_neg e]
      by_cases e2 : j = t
      · rw [if_pos e2]
        exact hn i i0 i3
      · rw [if_neg e2]
        exact a7 i j i0 i3 j0 j3 hij
/-- the reference's own state is another one (knocks alike), new cells stand where none stood, nothing else is other -/
def rW (G : gK) (w : wd) (R : rA) (S : rM) (w' : wd) : Prop := ∃ S' : rM, rS G w' R S' ∧ S'.2.2.2.2.2.1 = S.2.2.2.2.2.1 ∧ fr (rP R S.1) w w' ∧ ∀ q, rP R S'.1 q → rP R S.1 q ∨ w q = none
theorem rW.of {G : gK} {w w' : wd} {R : rA} {S S' : rM} (h : rS G w' R S') (hk : S'.2.2.2.2.2.1 = S.2.2.2.2.2.1) (hf : fr (rP R S.1) w w') (e : S'.1 = S.1) : rW G w R S w' := ⟨S', h, hk, hf, fun q hq => Or.inl (by rw [← e]; exact hq)⟩
abbrev rT (S : rM) (z : Int) : rM := (S.1, S.2.1, S.2.2.1, S.2.2.2.1, S.2.2.2.2.1, S.2.2.2.2.2.1, z)
def th2 (a c : Bool) : Int := cond a 1 (cond c 2 0)
theorem bq_t {q : Bool} {P : Prop} (h : q = true ↔ P) (e : q = true) : P := h.mp e
theorem bq_f {q : Bool} {P : Prop} (h : q = true ↔ P) (e : q = false) : ¬ P := fun p => by
  rw [h.mpr p] at e
  cases e
theorem bq_n {q : Bool} {P : Prop} (h : q = true ↔ ¬ P) (e : q = false) : P := Classical.byContradiction fun p => by
  rw [h.mpr p] at e
  cases e
theorem bor_f {a c : Bool} (h : (a || c) = false) : a = false ∧ c = false := by cases a <;> cases c <;> first | exact ⟨rfl, rfl⟩ | cases h
theorem bor_t {a c : Bool} (h : (a || c) = true) : a = true ∨ c = true := by cases a <;> cases c <;> first | exact Or.inl rfl | exact Or.inr rfl | cases h
end
section
/-! rows for arrays of references; what is so of signs, as the reference tells it; pieces -/
theorem va_AOA_mv {ty : FieldType} {u U : State} (hvm : u.vm.Alike U.vm) (h : va_AOA ty u) : va_AOA ty U := by
  obtain ⟨comp, c, k, h1, h2, h3, h4, h5⟩ := arrayOverA_spec h
  obtain ⟨k', hk', he⟩ := hvm.2.2 _ _ h3
  have hi : (U.vm.classes.findIdx? fun (x : Class) => match x.kind with | .array component _ => component == comp | _ => false) = some c := by
    have e1 := va_idx_bare U.vm comp
    have e2 := va_idx_bare u.vm comp
    have e3 : U.vm.bare = u.vm.bare := by first | exact hvm.bare_eq | exact hvm.bare_eq.symm
    rw [e3] at e1
    exact e1.symm.trans (e2.trans h2)
  have hkind : k'.kind = .array comp (.array ty) := by rw [he]; exact h4
  have f1 : U.vm.findClass (FieldType.array ty).toString = some comp := by rw [hvm.findClass]; exact h1
  have f2 : U.vm.findClass ("[" ++ (FieldType.array ty).toString) = some c := by rw [hvm.findClass]; exact h5
  unfold va_AOA Cond.before Cond.holds
  simp only [Cond.value]
  rw [f1, Option.bind_some]
  refine (congrArg (fun o : Option Nat => (o.bind (fun c => (U.vm.classes[c]?).map fun (k : Class) => match k.kind with | .array _ t => decide (t = FieldType.array ty) && decide (U.vm.findClass ("[" ++ (FieldType.array ty).toString) = some c) | _ => false) == some true)) hi).trans ?_
  simp [hk', hkind, f2]
theorem asg_self (vm : Vm) (x : ClassId) : vm.assignable x x = true := by
  unfold Vm.assignable
  rw [Vm.assignableAux]
  simp only [beq_self_eq_true, Bool.true_or]
section GRR
variable {b : gBt} {l : Launch} {s0 : State} {G : gK} {cc : ByteArray} {own : String} {nL : Nat} {rm : Room} {k n pc : Nat} {L : List (Nat × Value)} {st rest : List Value} {w : wd}
theorem g_AO {s : State} (h0 : gS0 s0) (hE : gEnv s0 G s) : va_AO RX1 s := by
  obtain ⟨a0, h1, h2⟩ := h0
  exact va_AO.moved hE.1.alike (va_AO.of (h1 _ (by decide +kernel)))
theorem g_AOA {s : State} (h0 : gS0 s0) (hE : gEnv s0 G s) : va_AOA .int s := by
  obtain ⟨a0, h1, h2⟩ := h0
  exact va_AOA_mv hE.1.alike (show va_AOA .int s0 from h1 (Cond.arrayOver (.array .int)) (by decide +kernel))
theorem x_newT (Z : gAm b l s0 G cc own nL rm) {idx : Nat} (hcl : Cond.classLink own idx RX1 ∈ gT) (d : decode cc pc = .ok (.anewarray idx, 3)) (hk : k + 1 ≤ rm.cells) (hn : n + 3 ≤ rm.slots) (kk : ∀ q : Nat, w q = none → gX b s0 G (k + 1) (n + 3) (pc + 3) L (rv q :: st) (ws1 w q (eT G 3 (fun _ => none)))) : gX b s0 G k n pc L (iv 3 :: st) w := by
  have a := Z.word hcl
  obtain ⟨hx, hb, ho, h0, hE, -, -, -, hR, -⟩ := Z
  have e3 : (zI 3).toNatClampNeg = 3 := by decide +kernel
  intro H locs ls hP hS hl
  refine W.anew (n := zI 3) hx hb ho a (va_AO.use (g_AO h0 hE)) rfl d rfl (by decide +kernel) (by decide +kernel) (by rw [hR]; exact hk) (by rw [hR, e3]; exact hn) fun cA kA comp f1 f2 f3 f4 => ?_
  obtain ⟨_, _, _, _, _, h4⟩ := (hE.2.2.2.2 3 _ rfl).2
  have hcA : cA = G.2.2.2.2.1 := Option.some.inj (f1.symm.trans h4)
  subst hcA
  rw [e3]
  generalize hH1 : H.push ({ cls := G.2.2.2.2.1, slots := Array.replicate 3 .null, vm := .none } : Cell) = H1
  have z1 : H1.size = H.size + 1 := by rw [← hH1, Array.size_push]
  have e1 : H1[H.size]? = some (arrV G.2.2.2.2.1 3 (fun _ => .null)) := by rw [← hH1, Array.getElem?_push_size, ← arrV_new]
  have o1 : ∀ q : Nat, q < H.size → H1[q]? = H[q]? := fun q hq => by rw [← hH1, Array.getElem?_push, if_neg (Nat.ne_of_lt hq)]
  obtain ⟨p1, p2⟩ := hP.push (e := eT G 3 (fun _ => none)) (g_base hE hS) e1 o1
  exact kk H.size p2 H1 locs ls p1 (hS.new z1 o1) hl
theorem x_aastR (Z : gAm b l s0 G cc own nL rm) {a len len2 v : Nat} {F : Int → Int} {f : Int → Option Nat} {i : Int} (d : decode cc pc = .ok (.aastore, 1)) (hw : w a = some (eR G len f)) (hv : w v = some (eI G len2 F)) (hN : len < 2147483648) (h1 : 0 ≤ i) (h2 : i < len) (kk : gX b s0 G k n (pc + 1) L st (ws1 w a (eR G len (uQ f i (some v))))) : gX b s0 G k n pc L (rv v :: iv i :: rv a :: st) w := by
  obtain ⟨hx, hb, -, h0, hE, -⟩ := Z
  have hK := hE.2.2.2
  have e := g_rd (c := G.2.2.2.2.2) (F := fun q => va_rf (f q)) h1 h2 hN
  obtain ⟨comp, cA, kA, y1, -, y3, y4, y5⟩ := arrayOverA_spec (g_AOA h0 hE)
  have q1 : cA = G.2.2.2.2.2 := Option.some.inj (y5.symm.trans (hK.2 4 _ rfl).2)
  have q2 : comp = G.2.2.1 := Option.some.inj (y1.symm.trans (hK.2 1 _ rfl).2)
  subst q1
  subst q2
  obtain ⟨-, kC, hkC, -⟩ := (hK.2 1 _ rfl).1 0 (fun _ => .null)
  intro H locs ls hP hS hl
  refine W.aast hx hb (g_arq hP hw) (fun q h => by cases h) (fun h => by cases h) y3 y4 rfl hkC ⟨fun q => e.1 (Or.inl q), Nat.not_le.mp fun q => e.1 (Or.inr q)⟩ (g_arr hP hv) (fun q h => by cases h) hkC (asg_self _ _) rfl rfl d fun H1 e1 z oq => ?_
  refine kk H1 _ ls (hP.set hw ?_ oq) (hS.put z oq (hP a _ hw).1) hl
  rw [show (Value.ref v) = va_rf (some v) from rfl, g_wr (F := fun q => va_rf (f q)) h1 h2 hN, g_uQ] at e1
  exact e1
theorem x_mna (Z : gAm b l s0 G cc own nL rm) {idx : Nat} (hcl : Cond.classLink own idx ("[" ++ (FieldType.array .int).toString) ∈ gT) (har : Cond.arrayClass .int ∈ gT) (d : decode cc pc = .ok (.multianewarray idx 2, 4)) (hk : k + 4 ≤ rm.cells) (hn : n + 93 ≤ rm.slots)
    (kk : ∀ (q r0 r1 r2 : Nat) (f : Int → Option Nat), w q = none → w r0 = none → w r1 = none → w r2 = none → q ≠ r0 → q ≠ r1 → q ≠ r2 → r0 ≠ r1 → r0 ≠ r2 → r1 ≠ r2 → f 0 = some r0 → f 1 = some r1 → f 2 = some r2 → gX b s0 G (k + 4) (n + 93) (pc + 4) L (rv q :: st) (ws1 (ws1 (ws1 (ws1 w r0 (eI G 30 (fun _ => 0))) r1 (eI G 30 (fun _ => 0))) r2 (eI G 30 (fun _ => 0))) q (eR G 3 f))) : gX b s0 G k n pc L (iv 30 :: iv 3 :: st) w := by
  have a1 := Z.word hcl
  have a2 := Z.word har
  obtain ⟨hx, hb, ho, h0, hE, -, -, -, hR, -⟩ := Z
  have e3 : (zI 3).toNatClampNeg = 3 := by decide +kernel
  have e30 : (zI 30).toNatClampNeg = 30 := by decide +kernel
  intro H locs ls hP hS hl T hT Xs
  obtain ⟨vm₁, cA, comp, -, fA, fC, hO, -, X', step⟩ := Xs.multianewarray2F (n := zI 3) (k := zI 30) (ty := .int) (rest := st) hx ho a1 (va_AOA.use (g_AOA h0 hE)) a2 (g := F0 (bm b) pc ls (iv 30 :: iv 3 :: st)) rfl (by rw [hb]; exact d) rfl (by decide +kernel) (by decide +kernel) (by decide +kernel) (by decide +kernel) (by decide +kernel) rfl rfl (by rw [hR, e3]; exact hk) (by rw [hR, e3, e30]; exact hn)
  have q1 : cA = G.2.2.2.2.2 := Option.some.inj (fA.symm.trans (hE.2.2.2.2 4 _ rfl).2)
  have q2 : comp = G.2.2.1 := Option.some.inj (fC.symm.trans (hE.2.2.2.2 1 _ rfl).2)
  subst q1
  subst q2
  rw [e3, e30] at X' step
  have hTh : (T.setVm vm₁).heap = H := hT
  obtain ⟨f1, f2, -, -⟩ := Jvm.Free.Multi.fill_facts (T.setVm vm₁) G.2.2.2.2.2 G.2.2.1 3 30 (defaultValue .int) 3
  have f4 := Jvm.Free.Multi.fill_inner (T.setVm vm₁) G.2.2.2.2.2 G.2.2.1 3 30 (defaultValue .int) 3
  have f5 := fun (x : Nat) (hx : x < (T.setVm vm₁).heap.size) => Jvm.Free.Multi.fill_old (T.setVm vm₁) G.2.2.2.2.2 G.2.2.1 3 30 (defaultValue .int) (a := x) hx 3
  generalize Jvm.Free.Multi.fill (T.setVm vm₁) G.2.2.2.2.2 G.2.2.1 3 30 (defaultValue .int) 3 = F at X' step f1 f2 f4 f5
  rw [hTh] at f1 f2 f4 f5
  rw [vr_outer] at f2
  have hrow : ∀ j : Nat, j < 3 → F.heap[H.size + 1 + j]? = some (arrV G.2.2.1 30 (fun _ => .int (zI 0))) := fun j hj => by
    rw [f4 j hj, zI_0]
    show some ({ cls := G.2.2.1, slots := Array.replicate 30 (.int 0), vm := .none } : Cell) = _
    rw [arrV_new]
  have hnone : ∀ x : Nat, H.size ≤ x → w x = none := fun x hx => by
    cases hx2 : w x with
    | none => rfl
    | some e => exact absurd ((hP _ _ hx2).2.lt) (Nat.not_lt.mpr hx)
  have hbase := g_base hE hS
  have K := kk H.size (H.size + 1) (H.size + 2) (H.size + 3) (fun i => if i.toNat < 3 then some (H.size + 1 + i.toNat) else none) (hnone _ (Nat.le_refl _)) (hnone _ (by omega)) (hnone _ (by omega)) (hnone _ (by omega)) (by omega) (by omega) (by omega) (by omega) (by omega) (by omega) rfl rfl rfl
  have hP' : gRep G.1 s0.heap.size (ws1 (ws1 (ws1 (ws1 w (H.size + 1) (eI G 30 (fun _ => 0))) (H.size + 2) (eI G 30 (fun _ => 0))) (H.size + 3) (eI G 30 (fun _ => 0))) H.size (eR G 3 (fun i => if i.toNat < 3 then some (H.size + 1 + i.toNat) else none))) F.heap := by
    intro x e hxe
    by_cases c0 : x = H.size
    · subst c0
      rw [ws1_s] at hxe
      cases hxe
      exact ⟨hbase, f2⟩
    · rw [ws1_n c0] at hxe
      by_cases c3 : x = H.size + 3
      · subst c3
        rw [ws1_s] at hxe
        cases hxe
        exact ⟨by omega, hrow 2 (by omega)⟩
      · rw [ws1_n c3] at hxe
        by_cases c2 : x = H.size + 2
        · subst c2
          rw [ws1_s] at hxe
          cases hxe
          exact ⟨by omega, hrow 1 (by omega)⟩
        · rw [ws1_n c2] at hxe
          by_cases c1 : x = H.size + 1
          · subst c1
            rw [ws1_s] at hxe
            cases hxe
            exact ⟨by omega, hrow 0 (by omega)⟩
          · rw [ws1_n c1] at hxe
            exact ⟨(hP _ _ hxe).1, (hP _ _ hxe).2.kept (f5 x (hP _ _ hxe).2.lt)⟩
  have hS' : va_S (gA s0) (bs b).heap F.heap locs := ⟨Nat.le_trans hS.1 (by omega), fun x h1 h2 => (f5 x (Nat.lt_of_lt_of_le h1 hS.1)).trans (hS.2.1 x h1 h2), hS.2.2⟩
  obtain ⟨t, b1, b2⟩ := K F.heap locs ls hP' hS' hl F rfl X'
  rw [hT] at step
  exact ⟨t, step t b1, b2⟩
end GRR
theorem fr.sub {w w1 : wd} (h : fr (fun _ => False) w w1) : wsub w w1 := fun a e he => h.at (fun q => q) he
theorem fr.set0 {P : Nat → Prop} {w0 w : wd} {a : Nat} {e : va_E} (h : fr P w0 w) (hn : w0 a = none) : fr P w0 (ws1 w a e) := fun q hq h0 => by
  rw [ws1_n (fun z => h0 (by rw [z]; exact hn))]
  exact h q hq h0
end
section
/-! what the reference tells, as pure words -/
theorem arrV_cg {c : ClassId} {N : Nat} {f g : Nat → Value} (h : ∀ j, j < N → f j = g j) : arrV c N f = arrV c N g := by
  unfold arrV
  congr 1
  exact congrArg Array.ofFn (funext fun j => h j.val j.isLt)
section GEV
variable {b : gBt} {l : Launch} {s0 : State} {G : gK} {cc : ByteArray} {own : String} {nL : Nat} {rm : Room} {k n pc : Nat} {L : List (Nat × Value)} {st : List Value} {w : wd}
theorem x_ev {a len : Nat} {F F' : Int → Int} (hw : w a = some (eI G len F)) (he : ∀ j : Nat, j < len → F (j : Int) = F' (j : Int)) (kk : gX b s0 G k n pc L st (ws1 w a (eI G len F'))) : gX b s0 G k n pc L st w :=
  fun H locs ls hP hS hl => kk H locs ls (hP.set hw ((g_arr hP hw).trans (congrArg some (arrV_cg (f := fun j => iv (F (j : Int))) (g := fun j => iv (F' (j : Int))) (fun j hj => congrArg iv (he j hj))))) (fun _ _ => rfl)) hS hl
end GEV
/-- a kind told of a span -/
def tld (k f t : Int) (F : Int → Int) : Int → Int := fun j => if f ≤ j ∧ j ≤ t then k else F j
theorem uF_rng {F : Int → Int} {i x : Int} (h : ∀ j, 0 ≤ F j ∧ F j ≤ 255) (h0 : 0 ≤ x) (h9 : x ≤ 255) : ∀ j, 0 ≤ uF F i x j ∧ uF F i x j ≤ 255 := fun j => by
  unfold uF
  split
  · exact ⟨h0, h9⟩
  · exact h j
/-! places -/
/-- all signs from f up to e -/
def al (C : Int → Int) (q f e : Int) : Prop := ∀ j, f ≤ j → j < e → so (C j) q = true
theorem al_iff {C : Int → Int} {q f e : Int} (h : f ≤ e) : findI (fun j => !so (C j) q) f e = e ↔ al C q f e := by
  have h1 := findI_all (P := fun j => !so (C j) q) (i := f) (n := e) (e := e) h (Int.le_refl _)
  have h2 := (findI_in (P := fun j => !so (C j) q) (i := f) (n := e) h).2
  constructor
  · intro e1 j hj he
    have := h1.mp (by omega) j hj he
    simpa using this
  · intro e1
    have := h1.mpr (fun j hj he => by simpa using e1 j hj he)
    omega
theorem lon_iff {n : Int} {C : Int → Int} {p e : Int} (h1 : p < e) (h2 : e ≤ n) : e - p ≤ lon n C p ↔ al C (oth (sb (C p))) (p + 1) e := by
  have h := findI_all (P := fun e => !so (C e) (oth (sb (C p)))) (i := p + 1) (n := n) (e := e) (by omega) h2
  unfold lon
  constructor
  · intro e1 j hj he
    have := h.mp (by omega) j hj he
    simpa using this
  · intro e1
    have := h.mpr (fun j hj he => by simpa using e1 j hj he)
    omega
set_option maxRecDepth 100000 in
theorem so_sgn : ∀ c : Fin 256, (so ((c.val : Nat) : Int) 11 = true → so ((c.val : Nat) : Int) 12 = true ∧ so ((c.val : Nat) : Int) 2 = false ∧ so ((c.val : Nat) : Int) 7 = false ∧ so ((c.val : Nat) : Int) 14 = false) ∧ (so ((c.val : Nat) : Int) 2 = true → so ((c.val : Nat) : Int) 7 = false ∧ so ((c.val : Nat) : Int) 14 = false) ∧ (so ((c.val : Nat) : Int) 7 = true → so ((c.val : Nat) : Int) 14 = false) ∧ (so ((c.val : Nat) : Int) 14 = decide (kin ((c.val : Nat) : Int) = 25)) ∧ so ((c.val : Nat) : Int) 6 = false := by decide +kernel
theorem so_sg {c : Int} (h0 : 0 ≤ c) (h9 : c ≤ 255) : (so c 11 = true → so c 12 = true ∧ so c 2 = false ∧ so c 7 = false ∧ so c 14 = false) ∧ (so c 2 = true → so c 7 = false ∧ so c 14 = false) ∧ (so c 7 = true → so c 14 = false) ∧ (so c 14 = decide (kin c = 25)) ∧ so c 6 = false := by
  have h := so_sgn ⟨c.toNat, by omega⟩
  have e : ((c.toNat : Nat) : Int) = c := Int.toNat_of_nonneg h0
  rw [e] at h
  exact h
theorem sb0 {c : Int} (h : so c 11 = true) : sb c = 0 := by unfold sb; rw [if_pos h]
theorem sb1 {c : Int} (h : so c 11 = false) (h2 : so c 2 = true) : sb c = 1 := by unfold sb; rw [if_neg (by rw [h]; decide), if_pos h2]
theorem sb2 {c : Int} (h : so c 11 = false) (h2 : so c 2 = false) (h3 : so c 7 = true) : sb c = 2 := by unfold sb; rw [if_neg (by rw [h]; decide), if_neg (by rw [h2]; decide), if_pos h3]
theorem sb3 {c : Int} (h : so c 11 = false) (h2 : so c 2 = false) (h3 : so c 7 = false) (h4 : so c 14 = true) : sb c = 3 := by unfold sb; rw [if_neg (by rw [h]; decide), if_neg (by rw [h2]; decide), if_neg (by rw [h3]; decide), if_pos h4]
theorem sb4 {c : Int} (h : so c 11 = false) (h2 : so c 2 = false) (h3 : so c 7 = false) (h4 : so c 14 = false) : sb c = 4 := by unfold sb; rw [if_neg (by rw [h]; decide), if_neg (by rw [h2]; decide), if_neg (by rw [h3]; decide), if_neg (by rw [h4]; decide)]
theorem al_cons {C : Int → Int} {q f e : Int} (h : f < e) : al C q f e ↔ so (C f) q = true ∧ al C q (f + 1) e := by
  constructor
  · exact fun h1 => ⟨h1 f (Int.le_refl _) h, fun j hj he => h1 j (by omega) he⟩
  · intro h1 j hj he
    rcases (by omega : j = f ∨ f + 1 ≤ j) with z | z
    · rw [z]; exact h1.1
    · exact h1.2 j z he
section SRT
variable {n : Int} {C : Int → Int} {f e : Int}
/-- the sort of a piece, or none -/
def srt (n : Int) (C : Int → Int) (f e : Int) : Int := if e - f ≤ lon n C f then sb (C f) else -1
theorem oth_0 : oth 0 = 12 := by decide
theorem oth_1 : oth 1 = 2 := by decide
theorem oth_2 : oth 2 = 7 := by decide
theorem oth_3 : oth 3 = 14 := by decide
theorem oth_4 : oth 4 = 6 := by decide
theorem so_sp (c q : Int) : so c q = true ∨ so c q = false := by cases so c q <;> simp
theorem srt_0 (h1 : f < e) (h2 : e ≤ n) (a : so (C f) 11 = true) (b : al C 12 f e) : srt n C f e = 0 := by
  unfold srt
  rw [sb0 a, if_pos ((lon_iff h1 h2).mpr (by rw [sb0 a, oth_0]; exact ((al_cons h1).mp b).2))]
theorem srt_1 (h1 : f < e) (h2 : e ≤ n) (hC : 0 ≤ C f ∧ C f ≤ 255) (b : al C 2 f e) : srt n C f e = 1 := by
  have s2 := ((al_cons h1).mp b).1
  have s11 : so (C f) 11 = false := by
    rcases so_sp (C f) 11 with q | q
    · have := ((so_sg hC.1 hC.2).1 q).2.1
      rw [s2] at this
      cases this
    · exact q
  unfold srt
  rw [sb1 s11 s2, if_pos ((lon_iff h1 h2).mpr (by rw [sb1 s11 s2, oth_1]; exact ((al_cons h1).mp b).2))]
theorem srt_2 (h1 : f < e) (h2 : e ≤ n) (hC : 0 ≤ C f ∧ C f ≤ 255) (b : al C 7 f e) : srt n C f e = 2 := by
  have s7 := ((al_cons h1).mp b).1
  have s11 : so (C f) 11 = false := by
    rcases so_sp (C f) 11 with q | q
    · have := ((so_sg hC.1 hC.2).1 q).2.2.1
      rw [s7] at this
      cases this
    · exact q
  have s2 : so (C f) 2 = false := by
    rcases so_sp (C f) 2 with q | q
    · have := ((so_sg hC.1 hC.2).2.1 q).1
      rw [s7] at this
      cases this
    · exact q
  unfold srt
  rw [sb2 s11 s2 s7, if_pos ((lon_iff h1 h2).mpr (by rw [sb2 s11 s2 s7, oth_2]; exact ((al_cons h1).mp b).2))]
theorem srt_3 (h1 : f < e) (h2 : e ≤ n) (hC : 0 ≤ C f ∧ C f ≤ 255) (b : al C 14 f e) : srt n C f e = 3 := by
  have s14 := ((al_cons h1).mp b).1
  have s11 : so (C f) 11 = false := by
    rcases so_sp (C f) 11 with q | q
    · have := ((so_sg hC.1 hC.2).1 q).2.2.2
      rw [s14] at this
      cases this
    · exact q
  have s2 : so (C f) 2 = false := by
    rcases so_sp (C f) 2 with q | q
    · have := ((so_sg hC.1 hC.2).2.1 q).2
      rw [s14] at this
      cases this
    · exact q
  have s7 : so (C f) 7 = false := by
    rcases so_sp (C f) 7 with q | q
    · have := (so_sg hC.1 hC.2).2.2.1 q
      rw [s14] at this
      cases this
    · exact q
  unfold srt
  rw [sb3 s11 s2 s7 s14, if_pos ((lon_iff h1 h2).mpr (by rw [sb3 s11 s2 s7 s14, oth_3]; exact ((al_cons h1).mp b).2))]
theorem srt_4 (h2 : e ≤ n) (he : e = f + 1) (hC : 0 ≤ C f ∧ C f ≤ 255) (a : ¬ (so (C f) 11 = true ∧ al C 12 f e)) (b : ¬ al C 2 f e) (c : ¬ al C 7 f e) (d : ¬ al C 14 f e) : srt n C f e = 4 := by
  have h1 : f < e := by omega
  have hn : ∀ q, al C q (f + 1) e := fun q j hj hje => by omega
  have s : ∀ q, ¬ al C q f e → so (C f) q = false := fun q h => by
    rcases so_sp (C f) q with z | z
    · exact absurd ((al_cons h1).mpr ⟨z, hn q⟩) h
    · exact z
  have s11 : so (C f) 11 = false := by
    rcases so_sp (C f) 11 with q | q
    · exact absurd ⟨q, (al_cons h1).mpr ⟨((so_sg hC.1 hC.2).1 q).1, hn 12⟩⟩ a
    · exact q
  unfold srt
  rw [sb4 s11 (s 2 b) (s 7 c) (s 14 d), if_pos ((lon_iff h1 h2).mpr (hn _))]
theorem srt_n (h1 : f < e) (h2 : e ≤ n) (he : e ≠ f + 1) (hC : ∀ j, 0 ≤ C j ∧ C j ≤ 255) (a : ¬ (so (C f) 11 = true ∧ al C 12 f e)) (b : ¬ al C 2 f e) (c : ¬ al C 7 f e) (d : ¬ al C 14 f e) : srt n C f e = -1 := by
  unfold srt
  rw [if_neg]
  intro z
  have z2 := (lon_iff h1 h2).mp z
  rcases so_sp (C f) 11 with s11 | s11
  · rw [sb0 s11, oth_0] at z2
    exact a ⟨s11, (al_cons h1).mpr ⟨((so_sg (hC f).1 (hC f).2).1 s11).1, z2⟩⟩
  · rcases so_sp (C f) 2 with s2 | s2
    · rw [sb1 s11 s2, oth_1] at z2
      exact b ((al_cons h1).mpr ⟨s2, z2⟩)
    · rcases so_sp (C f) 7 with s7 | s7
      · rw [sb2 s11 s2 s7, oth_2] at z2
        exact c ((al_cons h1).mpr ⟨s7, z2⟩)
      · rcases so_sp (C f) 14 with s14 | s14
        · rw [sb3 s11 s2 s7 s14, oth_3] at z2
          exact d ((al_cons h1).mpr ⟨s14, z2⟩)
        · rw [sb4 s11 s2 s7 s14, oth_4] at z2
          have z3 := z2 (f + 1) (Int.le_refl _) (by omega)
          rw [(so_sg (hC (f + 1)).1 (hC (f + 1)).2).2.2.2.2] at z3
          cases z3
theorem srt_in (h1 : f < e) (h2 : e ≤ n) : -1 ≤ srt n C f e ∧ srt n C f e ≤ 4 := by
  have h := sb_in (C f)
  unfold srt
  split <;> omega
theorem srt_p (h1 : f < e) (h2 : e ≤ n) : srt n C f e < 0 ↔ lon n C f < e - f := by
  have h := sb_in (C f)
  unfold srt
  split <;> omega
end SRT
/-! questions, as the reference tells them -/
set_option maxRecDepth 100000 in
theorem soR : ∀ c : Fin 256, so ((c.val : Nat) : Int) 0 = true ∧ so ((c.val : Nat) : Int) 1 = decide (kin ((c.val : Nat) : Int) = 1 ∨ kin ((c.val : Nat) : Int) = 2 ∨ kin ((c.val : Nat) : Int) = 5) ∧ so ((c.val : Nat) : Int) 2 = decide (kin ((c.val : Nat) : Int) = 9) ∧ so ((c.val : Nat) : Int) 3 = decide ((kin ((c.val : Nat) : Int) = 1 ∨ kin ((c.val : Nat) : Int) = 2 ∨ kin ((c.val : Nat) : Int) = 5) ∨ kin ((c.val : Nat) : Int) = 9) ∧ so ((c.val : Nat) : Int) 4 = decide (kin ((c.val : Nat) : Int) = 1) ∧ so ((c.val : Nat) : Int) 5 = decide (kin ((c.val : Nat) : Int) = 2 ∨ kin ((c.val : Nat) : Int) = 5) ∧ so ((c.val : Nat) : Int) 6 = false ∧ so ((c.val : Nat) : Int) 7 = decide ((8 < ((c.val : Nat) : Int) ∧ ((c.val : Nat) : Int) < 14) ∨ (27 < ((c.val : Nat) : Int) ∧ ((c.val : Nat) : Int) < 33)) ∧ so ((c.val : Nat) : Int) 8 = decide (kin ((c.val : Nat) : Int) = 12) ∧ so ((c.val : Nat) : Int) 9 = decide (kin ((c.val : Nat) : Int) = 15) ∧ so ((c.val : Nat) : Int) 10 = decide (kin ((c.val : Nat) : Int) = 21 ∨ kin ((c.val : Nat) : Int) = 22 ∨ kin ((c.val : Nat) : Int) = 29 ∨ kin ((c.val : Nat) : Int) = 30 ∨ ((c.val : Nat) : Int) = 60 ∨ ((c.val : Nat) : Int) = 62) ∧ so ((c.val : Nat) : Int) 11 = decide ((kin ((c.val : Nat) : Int) = 1 ∨ kin ((c.val : Nat) : Int) = 2 ∨ kin ((c.val : Nat) : Int) = 5) ∨ kin ((c.val : Nat) : Int) = 23 ∨ kin ((c.val : Nat) : Int) = 26) ∧ so ((c.val : Nat) : Int) 12 = (so ((c.val : Nat) : Int) 11 || decide (kin ((c.val : Nat) : Int) = 9) || so ((c.val : Nat) : Int) 13) ∧ so ((c.val : Nat) : Int) 13 = decide (kin ((c.val : Nat) : Int) = 16 ∨ (kin ((c.val : Nat) : Int) = 15 ∧ ¬ ((8 < ((c.val : Nat) : Int) ∧ ((c.val : Nat) : Int) < 14) ∨ (27 < ((c.val : Nat) : Int) ∧ ((c.val : Nat) : Int) < 33)))) := by decide +kernel
theorem soR' {c : Int} (h0 : 0 ≤ c) (h9 : c ≤ 255) : so c 0 = true ∧ so c 1 = decide (kin c = 1 ∨ kin c = 2 ∨ kin c = 5) ∧ so c 2 = decide (kin c = 9) ∧ so c 3 = decide ((kin c = 1 ∨ kin c = 2 ∨ kin c = 5) ∨ kin c = 9) ∧ so c 4 = decide (kin c = 1) ∧ so c 5 = decide (kin c = 2 ∨ kin c = 5) ∧ so c 6 = false ∧ so c 7 = decide ((8 < c ∧ c < 14) ∨ (27 < c ∧ c < 33)) ∧ so c 8 = decide (kin c = 12) ∧ so c 9 = decide (kin c = 15) ∧ so c 10 = decide (kin c = 21 ∨ kin c = 22 ∨ kin c = 29 ∨ kin c = 30 ∨ c = 60 ∨ c = 62) ∧ so c 11 = decide ((kin c = 1 ∨ kin c = 2 ∨ kin c = 5) ∨ kin c = 23 ∨ kin c = 26) ∧ so c 12 = (so c 11 || decide (kin c = 9) || so c 13) ∧ so c 13 = decide (kin c = 16 ∨ (kin c = 15 ∧ ¬ ((8 < c ∧ c < 14) ∨ (27 < c ∧ c < 33)))) := by
  have h := soR ⟨c.toNat, by omega⟩
  have e : ((c.toNat : Nat) : Int) = c := Int.toNat_of_nonneg h0
  rw [e] at h
  exact h
theorem bq_d {q : Bool} {P : Prop} [Decidable P] (h : q = true ↔ P) : q = decide P := by
  cases q with
  | true => exact (decide_eq_true (h.mp rfl)).symm
  | false => exact (decide_eq_false (fun p => by have := h.mpr p; cases this)).symm
end
section
/-! the reference after an act; both sides alike -/
/-- only the text t is other -/
def rK (S S1 : rM) (t : Int) : Prop := (∀ u, u ≠ t → S1.2.1 u = S.2.1 u ∧ S1.2.2.1 u = S.2.2.1 u) ∧ S1.2.2.2.1 = S.2.2.2.1 ∧ S1.2.2.2.2.1 = S.2.2.2.2.1 ∧ S1.2.2.2.2.2.1 = S.2.2.2.2.2.1 ∧ S1.2.2.2.2.2.2 = S.2.2.2.2.2.2
theorem rK.rf {S : rM} {t : Int} : rK S S t := ⟨fun _ _ => ⟨rfl, rfl⟩, rfl, rfl, rfl, rfl⟩
theorem rK.row {S S1 : rM} {t : Int} {X : Int → Int} (h : rK S S1 t) : rK S (S1.1, S1.2.1, fun i => if i = t then X else S1.2.2.1 i, S1.2.2.2) t := ⟨fun u hu => ⟨(h.1 u hu).1, (if_neg hu).trans (h.1 u hu).2⟩, h.2⟩
theorem rK.siz {S S1 : rM} {t x : Int} (h : rK S S1 t) : rK S (S1.1, uF S1.2.1 t x, S1.2.2) t := ⟨fun u hu => ⟨(if_neg hu).trans (h.1 u hu).1, (h.1 u hu).2⟩, h.2⟩
theorem rK.rep {S S1 : rM} {t : Int} {ro : Int → Nat} {X : Int → Int} (h : rK S S1 t) : rK S (ro, S1.2.1, fun i => if i = t then X else S1.2.2.1 i, S1.2.2.2) t := ⟨fun u hu => ⟨(h.1 u hu).1, (if_neg hu).trans (h.1 u hu).2⟩, h.2⟩
theorem rK.tr {S S1 S2 : rM} {t : Int} (h : rK S S1 t) (h2 : rK S1 S2 t) : rK S S2 t := ⟨fun u hu => ⟨(h2.1 u hu).1.trans (h.1 u hu).1, (h2.1 u hu).2.trans (h.1 u hu).2⟩, h2.2.1.trans h.2.1, h2.2.2.1.trans h.2.2.1, h2.2.2.2.1.trans h.2.2.2.1, h2.2.2.2.2.trans h.2.2.2.2⟩
def rDo (S : rM) (x : oT) (z : Int) (S' : rM) : Prop := z = x.1 ∧ (∀ u : Int, 0 ≤ u → u < 3 → (S'.2.1 u = if u = x.2.1 then x.2.2.1 else S.2.1 u) ∧ tEq (S'.2.1 u) (S'.2.2.1 u) (if u = x.2.1 then x.2.2.2.1 else S.2.2.1 u)) ∧ S'.2.2.2.1 = S.2.2.2.1 + x.2.2.2.2.1 ∧ S'.2.2.2.2.1 = S.2.2.2.2.1 + x.2.2.2.2.2 ∧ S'.2.2.2.2.2.1 = S.2.2.2.2.2.1
theorem rDo.mk {S S1 : rM} {x : oT} {z t n' : Int} {D : Int → Int} (e : x = (z, t, n', D, 1, 0)) (hk : rK S S1 t) (hn : S1.2.1 t = n') (hD : tEq n' (S1.2.2.1 t) D) : rDo S x z (S1.1, S1.2.1, S1.2.2.1, S1.2.2.2.1 + 1, S1.2.2.2.2.1, S1.2.2.2.2.2.1, S1.2.2.2.2.2.2) := by
  subst e
  obtain ⟨h1, h2, h3, h4, h5⟩ := hk
  refine ⟨rfl, fun u _ _ => ⟨?_, ?_⟩, by show S1.2.2.2.1 + 1 = _; rw [h2], by show S1.2.2.2.2.1 = _; rw [h3]; exact (Int.add_zero _).symm, h4⟩
  · show S1.2.1 u = if u = t then n' else S.2.1 u
    by_cases h : u = t
    · rw [if_pos h, h]; exact hn
    · rw [if_neg h]; exact (h1 u h).1
  · show tEq (S1.2.1 u) (S1.2.2.1 u) (if u = t then D else S.2.2.1 u)
    by_cases h : u = t
    · rw [if_pos h, h, hn]; exact hD
    · rw [if_neg h, (h1 u h).2]; exact tEq.rf
theorem rDo.no {S : rM} {x : oT} {t T : Int} {ro : Int → Nat} (e : x = (-9, t, S.2.1 t, S.2.2.1 t, 0, 1)) : rDo S x (-9) (ro, S.2.1, S.2.2.1, S.2.2.2.1, S.2.2.2.2.1 + 1, S.2.2.2.2.2.1, T) := by
  subst e
  refine ⟨rfl, fun u _ _ => ⟨?_, ?_⟩, (Int.add_zero _).symm, rfl, rfl⟩
  · show S.2.1 u = if u = t then S.2.1 t else S.2.1 u
    by_cases h : u = t
    · rw [if_pos h, h]
    · rw [if_neg h]
  · show tEq (S.2.1 u) (S.2.2.1 u) (if u = t then S.2.2.1 t else S.2.2.1 u)
    by_cases h : u = t
    · rw [if_pos h, h]; exact tEq.rf
    · rw [if_neg h]; exact tEq.rf
theorem rDo.eq {S S' : rM} {x y : oT} {z : Int} (h : oEq x y) (hd : rDo S x z S') : rDo S y z S' := by
  obtain ⟨e1, e2, e3, e4, e5, e6⟩ := h
  obtain ⟨h1, h2, h3, h4, h5⟩ := hd
  refine ⟨h1.trans e1, fun u u0 u3 => ?_, h3.trans (by rw [e5]), h4.trans (by rw [e6]), h5⟩
  obtain ⟨a1, a2⟩ := h2 u u0 u3
  refine ⟨a1.trans (by rw [e2, e3]), ?_⟩
  by_cases c : u = x.2.1
  · rw [if_pos c] at a1 a2
    rw [if_pos (c.trans e2), a1]
    rw [a1] at a2
    exact a2.tr e4
  · rw [if_neg c] at a2
    rw [if_neg (by rw [← e2]; exact c)]
    exact a2
/-- both sides alike -/
def cpl (M : kM) (S : rM) : Prop := (∀ t : Int, 0 ≤ t → t < 3 → M.1 t = S.2.1 t ∧ tEq (M.1 t) (M.2.1 t) (S.2.2.1 t)) ∧ M.2.2.1 = S.2.2.2.1 ∧ M.2.2.2.1 = S.2.2.2.2.1 ∧ M.2.2.2.2 = S.2.2.2.2.2.1
theorem cpl.act {M M' : kM} {S S' : rM} {x y : oT} {z z2 : Int} (h : cpl M S) (he : oEq x y) (ha : aDo M x z M') (hr : rDo S y z2 S') : z = z2 ∧ cpl M' S' := by
  obtain ⟨c1, c2, c3, c4⟩ := h
  obtain ⟨e1, e2, e3, e4, e5, e6⟩ := he
  obtain ⟨a1, a2, a3, a4, a5⟩ := ha
  obtain ⟨r1, r2, r3, r4, r5⟩ := hr
  refine ⟨by rw [a1, r1, e1], fun t t0 t3 => ?_, by rw [a3, r3, c2, e5], by rw [a4, r4, c3, e6], by rw [a5, r5, c4]⟩
  obtain ⟨m1, m2⟩ := a2 t t0 t3
  obtain ⟨s1, s2⟩ := r2 t t0 t3
  obtain ⟨k1, k2⟩ := c1 t t0 t3
  by_cases q : t = x.2.1
  · have q2 : t = y.2.1 := q.trans e2
    rw [if_pos q] at m1 m2
    rw [if_pos q2] at s1 s2
    have en : M'.1 t = S'.2.1 t := by rw [m1, s1, e3]
    refine ⟨en, m2.tr ?_⟩
    rw [m1]
    exact e4.tr (by rw [e3, ← s1]; exact s2.sm)
  · have q2 : t ≠ y.2.1 := by rw [← e2]; exact q
    rw [if_neg q] at m1 m2
    rw [if_neg q2] at s1 s2
    have en : M'.1 t = S'.2.1 t := by rw [m1, s1, k1]
    refine ⟨en, m2.tr ?_⟩
    rw [m1]
    exact k2.tr (by rw [k1, ← s1]; exact s2.sm)
/-- what both sides know, alike -/
def vEq (n : Int → Int) (C : Int → Int → Int) (m : Int → Int) (D : Int → Int → Int) : Prop := ∀ t : Int, 0 ≤ t → t < 3 → n t = m t ∧ tEq (n t) (C t) (D t)
section AC
variable {n m : Int → Int} {C D : Int → Int → Int} {t u : Int}
theorem acIns_cg {p s : Int} (h : vEq n C m D) (t0 : 0 ≤ t) (t3 : t < 3) (p0 : 0 ≤ p) (pn : p ≤ n t) : oEq (acIns n C t p s) (acIns m D t p s) := by
  obtain ⟨e, hc⟩ := h t t0 t3
  unfold acIns
  rw [← e]
  by_cases q : 30 ≤ n t
  · rw [if_pos q, if_pos q]; exact ⟨rfl, rfl, rfl, hc, rfl, rfl⟩
  · rw [if_neg q, if_neg q]; exact ⟨rfl, rfl, rfl, tins_cg hc p0 pn, rfl, rfl⟩
theorem acAdd_cg {s : Int} (h : vEq n C m D) (t0 : 0 ≤ t) (t3 : t < 3) (n0 : 0 ≤ n t) : oEq (acIns n C t (n t) s) (acIns m D t (m t) s) := by
  rw [← (h t t0 t3).1]
  exact acIns_cg h t0 t3 n0 (Int.le_refl _)
theorem acPut_cg {p s : Int} (h : vEq n C m D) (t0 : 0 ≤ t) (t3 : t < 3) (p0 : 0 ≤ p) (pn : p < n t) : oEq (acPut n C t p s) (acPut m D t p s) := by
  obtain ⟨e, hc⟩ := h t t0 t3
  refine ⟨hc p p0 pn, rfl, e, fun j j0 jn => ?_, rfl, rfl⟩
  show uF (C t) p s j = uF (D t) p s j
  unfold uF
  by_cases q : j = p
  · rw [if_pos q, if_pos q]
  · rw [if_neg q, if_neg q]; exact hc j j0 jn
theorem acDrop_cg {p : Int} (h : vEq n C m D) (t0 : 0 ≤ t) (t3 : t < 3) (p0 : 0 ≤ p) (pn : p < n t) : oEq (acDrop n C t p) (acDrop m D t p) := by
  obtain ⟨e, hc⟩ := h t t0 t3
  refine ⟨hc p p0 pn, rfl, by show n t - 1 = m t - 1; rw [e], fun j j0 jn => ?_, rfl, rfl⟩
  have jn : j < n t - 1 := jn
  show (if j < p then C t j else C t (j + 1)) = (if j < p then D t j else D t (j + 1))
  by_cases q : j < p
  · rw [if_pos q, if_pos q]; exact hc j j0 (by omega)
  · rw [if_neg q, if_neg q]; exact hc (j + 1) (by omega) (by omega)
theorem acClear_cg (h : vEq n C m D) (t0 : 0 ≤ t) (t3 : t < 3) : oEq (acClear n C t) (acClear m D t) := ⟨(h t t0 t3).1, rfl, rfl, fun j j0 jn => absurd jn (by show ¬ j < 0; omega), rfl, rfl⟩
theorem acCopy_cg (h : vEq n C m D) (t0 : 0 ≤ t) (t3 : t < 3) : oEq (acCopy n C t u) (acCopy m D t u) := ⟨(h t t0 t3).1, rfl, (h t t0 t3).1, (h t t0 t3).2, rfl, rfl⟩
theorem acJoin_cg (h : vEq n C m D) (t0 : 0 ≤ t) (t3 : t < 3) (u0 : 0 ≤ u) (u3 : u < 3) : oEq (acJoin n C t u) (acJoin m D t u) := by
  obtain ⟨e, hc⟩ := h t t0 t3
  obtain ⟨e2, hc2⟩ := h u u0 u3
  unfold acJoin
  rw [← e, ← e2]
  by_cases q : 30 < n t + n u
  · rw [if_pos q, if_pos q]; exact ⟨rfl, rfl, rfl, hc, rfl, rfl⟩
  · rw [if_neg q, if_neg q]; exact ⟨rfl, rfl, rfl, tapp_cg hc hc2, rfl, rfl⟩
theorem acTurn_cg (h : vEq n C m D) (t0 : 0 ≤ t) (t3 : t < 3) (n0 : 0 ≤ n t) : oEq (acTurn n C t) (acTurn m D t) := by
  obtain ⟨e, hc⟩ := h t t0 t3
  unfold acTurn
  rw [← e]
  rw [findI_cg (P := fun j => decide (C t j ≠ C t (n t - 1 - j))) (Q := fun j => decide (D t j ≠ D t (n t - 1 - j))) n0 (fun j j0 jn => by show decide (C t j ≠ C t (n t - 1 - j)) = _; rw [hc j j0 jn, hc (n t - 1 - j) (by omega) (by omega)])]
  exact ⟨rfl, rfl, rfl, fun j j0 jn => hc _ (by have jn : j < n t := jn; omega) (by omega), rfl, rfl⟩
theorem acFill_cg {f k : Int} (h : vEq n C m D) (t0 : 0 ≤ t) (t3 : t < 3) : oEq (acFill n t f k) (acFill m t f k) := ⟨(h t t0 t3).1, rfl, rfl, tEq.rf, rfl, rfl⟩
theorem acCut_cg {f g : Int} (h : vEq n C m D) (t0 : 0 ≤ t) (t3 : t < 3) (f0 : 0 ≤ f) (gn : g ≤ n t) : oEq (acCut C t f g) (acCut D t f g) := ⟨rfl, rfl, rfl, fun j j0 jn => (h t t0 t3).2 _ (by omega) (by have jn : j < g - f := jn; omega), rfl, rfl⟩
theorem acSift_cg {P Q : Int → Bool} (h : vEq n C m D) (t0 : 0 ≤ t) (t3 : t < 3) (n0 : 0 ≤ n t) (hp : ∀ j, 0 ≤ j → j < n t → P j = Q j) : oEq (acSift n C t P) (acSift m D t Q) := by
  obtain ⟨e, hc⟩ := h t t0 t3
  have hs := sft_cg n0 hp hc
  unfold acSift
  rw [← e]
  exact ⟨by show n t - (sft P (n t) (C t)).1 = n t - (sft Q (n t) (D t)).1; rw [hs.1], rfl, hs.1, hs.2, rfl, rfl⟩
theorem acTake_cg {k : Int} (h : vEq n C m D) (t0 : 0 ≤ t) (t3 : t < 3) (n0 : 0 ≤ n t) (hb : 0 ≤ pbg (n t) (C t) k) : oEq (acTake n C t k u) (acTake m D t k u) := by
  obtain ⟨e, hc⟩ := h t t0 t3
  have hp := pbg_in (n := n t) (C := C t) (k := k) n0
  have hl := lon_in (n := n t) (C := C t) (p := pbg (n t) (C t) k) (by omega)
  unfold acTake
  rw [← e, ← pbg_cg n0 hc, ← lon_cg hc hb (by omega)]
  exact ⟨rfl, rfl, rfl, fun j j0 jn => hc _ (by omega) (by have jn : j < lon (n t) (C t) (pbg (n t) (C t) k) := jn; omega), rfl, rfl⟩
end AC
end
