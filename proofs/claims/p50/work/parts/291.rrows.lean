/-! rows for arrays of references; what is so of signs, as the reference tells it; pieces -/
theorem va_AOA_mv {ty : FieldType} {u U : State} (hvm : u.vm.Alike U.vm) (h : va_AOA ty u) : va_AOA ty U := by
  obtain ⟨comp, c, k, h1, h2, h3, h4, h5⟩ := arrayOverA_spec h
  obtain ⟨k', hk', he⟩ := hvm.2.2 _ _ h3
  have hi : (U.vm.classes.findIdx? fun (x : Class) => match x.kind with | .array component _ => component == comp | _ => false) = some c := by
    have e1 := va_idx_bare U.vm comp
    have e2 := va_idx_bare u.vm comp
    have e3 : U.vm.bare = u.vm.bare := by first | exact hvm.bare_eq | exact hvm.bare_eq.symm
    rw [e3] at e1
    exact e1.symm.trans (e2.trans h2)
  have hkind : k'.kind = .array comp (.array ty) := by rw [he]; exact h4
  have f1 : U.vm.findClass (FieldType.array ty).toString = some comp := by rw [hvm.findClass]; exact h1
  have f2 : U.vm.findClass ("[" ++ (FieldType.array ty).toString) = some c := by rw [hvm.findClass]; exact h5
  unfold va_AOA Cond.before Cond.holds
  simp only [Cond.value]
  rw [f1, Option.bind_some]
  refine (congrArg (fun o : Option Nat => (o.bind (fun c => (U.vm.classes[c]?).map fun (k : Class) => match k.kind with | .array _ t => decide (t = FieldType.array ty) && decide (U.vm.findClass ("[" ++ (FieldType.array ty).toString) = some c) | _ => false) == some true)) hi).trans ?_
  simp [hk', hkind, f2]
theorem asg_self (vm : Vm) (x : ClassId) : vm.assignable x x = true := by
  unfold Vm.assignable
  rw [Vm.assignableAux]
  simp only [beq_self_eq_true, Bool.true_or]
section GRR
variable {b : gBt} {l : Launch} {s0 : State} {G : gK} {cc : ByteArray} {own : String} {nL : Nat} {rm : Room} {k n pc : Nat} {L : List (Nat × Value)} {st rest : List Value} {w : wd}
theorem g_AO {s : State} (h0 : gS0 s0) (hE : gEnv s0 G s) : va_AO RX1 s := by
  obtain ⟨a0, h1, h2⟩ := h0
  exact va_AO.moved hE.1.alike (va_AO.of (h1 _ (by decide +kernel)))
theorem g_AOA {s : State} (h0 : gS0 s0) (hE : gEnv s0 G s) : va_AOA .int s := by
  obtain ⟨a0, h1, h2⟩ := h0
  exact va_AOA_mv hE.1.alike (show va_AOA .int s0 from h1 (Cond.arrayOver (.array .int)) (by decide +kernel))
theorem x_newT (Z : gAm b l s0 G cc own nL rm) {idx : Nat} (hcl : Cond.classLink own idx RX1 ∈ gT) (d : decode cc pc = .ok (.anewarray idx, 3)) (hk : k + 1 ≤ rm.cells) (hn : n + 3 ≤ rm.slots) (kk : ∀ q : Nat, w q = none → gX b s0 G (k + 1) (n + 3) (pc + 3) L (rv q :: st) (ws1 w q (eT G 3 (fun _ => none)))) : gX b s0 G k n pc L (iv 3 :: st) w := by
  have a := Z.word hcl
  obtain ⟨hx, hb, ho, h0, hE, -, -, -, hR, -⟩ := Z
  have e3 : (zI 3).toNatClampNeg = 3 := by decide +kernel
  intro H locs ls hP hS hl
  refine W.anew (n := zI 3) hx hb ho a (va_AO.use (g_AO h0 hE)) rfl d rfl (by decide +kernel) (by decide +kernel) (by rw [hR]; exact hk) (by rw [hR, e3]; exact hn) fun cA kA comp f1 f2 f3 f4 => ?_
  obtain ⟨_, _, _, _, _, h4⟩ := (hE.2.2.2.2 3 _ rfl).2
  have hcA : cA = G.2.2.2.2.1 := Option.some.inj (f1.symm.trans h4)
  subst hcA
  rw [e3]
  generalize hH1 : H.push ({ cls := G.2.2.2.2.1, slots := Array.replicate 3 .null, vm := .none } : Cell) = H1
  have z1 : H1.size = H.size + 1 := by rw [← hH1, Array.size_push]
  have e1 : H1[H.size]? = some (arrV G.2.2.2.2.1 3 (fun _ => .null)) := by rw [← hH1, Array.getElem?_push_size, ← arrV_new]
  have o1 : ∀ q : Nat, q < H.size → H1[q]? = H[q]? := fun q hq => by rw [← hH1, Array.getElem?_push, if_neg (Nat.ne_of_lt hq)]
  obtain ⟨p1, p2⟩ := hP.push (e := eT G 3 (fun _ => none)) (g_base hE hS) e1 o1
  exact kk H.size p2 H1 locs ls p1 (hS.new z1 o1) hl
theorem x_aastR (Z : gAm b l s0 G cc own nL rm) {a len len2 v : Nat} {F : Int → Int} {f : Int → Option Nat} {i : Int} (d : decode cc pc = .ok (.aastore, 1)) (hw : w a = some (eR G len f)) (hv : w v = some (eI G len2 F)) (hN : len < 2147483648) (h1 : 0 ≤ i) (h2 : i < len) (kk : gX b s0 G k n (pc + 1) L st (ws1 w a (eR G len (uQ f i (some v))))) : gX b s0 G k n pc L (rv v :: iv i :: rv a :: st) w := by
  obtain ⟨hx, hb, -, h0, hE, -⟩ := Z
  have hK := hE.2.2.2
  have e := g_rd (c := G.2.2.2.2.2) (F := fun q => va_rf (f q)) h1 h2 hN
  obtain ⟨comp, cA, kA, y1, -, y3, y4, y5⟩ := arrayOverA_spec (g_AOA h0 hE)
  have q1 : cA = G.2.2.2.2.2 := Option.some.inj (y5.symm.trans (hK.2 4 _ rfl).2)
  have q2 : comp = G.2.2.1 := Option.some.inj (y1.symm.trans (hK.2 1 _ rfl).2)
  subst q1
  subst q2
  obtain ⟨-, kC, hkC, -⟩ := (hK.2 1 _ rfl).1 0 (fun _ => .null)
  intro H locs ls hP hS hl
  refine W.aast hx hb (g_arq hP hw) (fun q h => by cases h) (fun h => by cases h) y3 y4 rfl hkC ⟨fun q => e.1 (Or.inl q), Nat.not_le.mp fun q => e.1 (Or.inr q)⟩ (g_arr hP hv) (fun q h => by cases h) hkC (asg_self _ _) rfl rfl d fun H1 e1 z oq => ?_
  refine kk H1 _ ls (hP.set hw ?_ oq) (hS.put z oq (hP a _ hw).1) hl
  rw [show (Value.ref v) = va_rf (some v) from rfl, g_wr (F := fun q => va_rf (f q)) h1 h2 hN, g_uQ] at e1
  exact e1
theorem x_mna (Z : gAm b l s0 G cc own nL rm) {idx : Nat} (hcl : Cond.classLink own idx ("[" ++ (FieldType.array .int).toString) ∈ gT) (har : Cond.arrayClass .int ∈ gT) (d : decode cc pc = .ok (.multianewarray idx 2, 4)) (hk : k + 4 ≤ rm.cells) (hn : n + 93 ≤ rm.slots)
    (kk : ∀ (q r0 r1 r2 : Nat) (f : Int → Option Nat), w q = none → w r0 = none → w r1 = none → w r2 = none → q ≠ r0 → q ≠ r1 → q ≠ r2 → r0 ≠ r1 → r0 ≠ r2 → r1 ≠ r2 → f 0 = some r0 → f 1 = some r1 → f 2 = some r2 → gX b s0 G (k + 4) (n + 93) (pc + 4) L (rv q :: st) (ws1 (ws1 (ws1 (ws1 w r0 (eI G 30 (fun _ => 0))) r1 (eI G 30 (fun _ => 0))) r2 (eI G 30 (fun _ => 0))) q (eR G 3 f))) : gX b s0 G k n pc L (iv 30 :: iv 3 :: st) w := by
  have a1 := Z.word hcl
  have a2 := Z.word har
  obtain ⟨hx, hb, ho, h0, hE, -, -, -, hR, -⟩ := Z
  have e3 : (zI 3).toNatClampNeg = 3 := by decide +kernel
  have e30 : (zI 30).toNatClampNeg = 30 := by decide +kernel
  intro H locs ls hP hS hl T hT Xs
  obtain ⟨vm₁, cA, comp, -, fA, fC, hO, -, X', step⟩ := Xs.multianewarray2F (n := zI 3) (k := zI 30) (ty := .int) (rest := st) hx ho a1 (va_AOA.use (g_AOA h0 hE)) a2 (g := F0 (bm b) pc ls (iv 30 :: iv 3 :: st)) rfl (by rw [hb]; exact d) rfl (by decide +kernel) (by decide +kernel) (by decide +kernel) (by decide +kernel) (by decide +kernel) rfl rfl (by rw [hR, e3]; exact hk) (by rw [hR, e3, e30]; exact hn)
  have q1 : cA = G.2.2.2.2.2 := Option.some.inj (fA.symm.trans (hE.2.2.2.2 4 _ rfl).2)
  have q2 : comp = G.2.2.1 := Option.some.inj (fC.symm.trans (hE.2.2.2.2 1 _ rfl).2)
  subst q1
  subst q2
  rw [e3, e30] at X' step
  have hTh : (T.setVm vm₁).heap = H := hT
  obtain ⟨f1, f2, -, -⟩ := Jvm.Free.Multi.fill_facts (T.setVm vm₁) G.2.2.2.2.2 G.2.2.1 3 30 (defaultValue .int) 3
  have f4 := Jvm.Free.Multi.fill_inner (T.setVm vm₁) G.2.2.2.2.2 G.2.2.1 3 30 (defaultValue .int) 3
  have f5 := fun (x : Nat) (hx : x < (T.setVm vm₁).heap.size) => Jvm.Free.Multi.fill_old (T.setVm vm₁) G.2.2.2.2.2 G.2.2.1 3 30 (defaultValue .int) (a := x) hx 3
  generalize Jvm.Free.Multi.fill (T.setVm vm₁) G.2.2.2.2.2 G.2.2.1 3 30 (defaultValue .int) 3 = F at X' step f1 f2 f4 f5
  rw [hTh] at f1 f2 f4 f5
  rw [vr_outer] at f2
  have hrow : ∀ j : Nat, j < 3 → F.heap[H.size + 1 + j]? = some (arrV G.2.2.1 30 (fun _ => .int (zI 0))) := fun j hj => by
    rw [f4 j hj, zI_0]
    show some ({ cls := G.2.2.1, slots := Array.replicate 30 (.int 0), vm := .none } : Cell) = _
    rw [arrV_new]
  have hnone : ∀ x : Nat, H.size ≤ x → w x = none := fun x hx => by
    cases hx2 : w x with
    | none => rfl
    | some e => exact absurd ((hP _ _ hx2).2.lt) (Nat.not_lt.mpr hx)
  have hbase := g_base hE hS
  have K := kk H.size (H.size + 1) (H.size + 2) (H.size + 3) (fun i => if i.toNat < 3 then some (H.size + 1 + i.toNat) else none) (hnone _ (Nat.le_refl _)) (hnone _ (by omega)) (hnone _ (by omega)) (hnone _ (by omega)) (by omega) (by omega) (by omega) (by omega) (by omega) (by omega) rfl rfl rfl
  have hP' : gRep G.1 s0.heap.size (ws1 (ws1 (ws1 (ws1 w (H.size + 1) (eI G 30 (fun _ => 0))) (H.size + 2) (eI G 30 (fun _ => 0))) (H.size + 3) (eI G 30 (fun _ => 0))) H.size (eR G 3 (fun i => if i.toNat < 3 then some (H.size + 1 + i.toNat) else none))) F.heap := by
    intro x e hxe
    by_cases c0 : x = H.size
    · subst c0
      rw [ws1_s] at hxe
      cases hxe
      exact ⟨hbase, f2⟩
    · rw [ws1_n c0] at hxe
      by_cases c3 : x = H.size + 3
      · subst c3
        rw [ws1_s] at hxe
        cases hxe
        exact ⟨by omega, hrow 2 (by omega)⟩
      · rw [ws1_n c3] at hxe
        by_cases c2 : x = H.size + 2
        · subst c2
          rw [ws1_s] at hxe
          cases hxe
          exact ⟨by omega, hrow 1 (by omega)⟩
        · rw [ws1_n c2] at hxe
          by_cases c1 : x = H.size + 1
          · subst c1
            rw [ws1_s] at hxe
            cases hxe
            exact ⟨by omega, hrow 0 (by omega)⟩
          · rw [ws1_n c1] at hxe
            exact ⟨(hP _ _ hxe).1, (hP _ _ hxe).2.kept (f5 x (hP _ _ hxe).2.lt)⟩
  have hS' : va_S (gA s0) (bs b).heap F.heap locs := ⟨Nat.le_trans hS.1 (by omega), fun x h1 h2 => (f5 x (Nat.lt_of_lt_of_le h1 hS.1)).trans (hS.2.1 x h1 h2), hS.2.2⟩
  obtain ⟨t, b1, b2⟩ := K F.heap locs ls hP' hS' hl F rfl X'
  rw [hT] at step
  exact ⟨t, step t b1, b2⟩
end GRR
theorem fr.sub {w w1 : wd} (h : fr (fun _ => False) w w1) : wsub w w1 := fun a e he => h.at (fun q => q) he
theorem fr.set0 {P : Nat → Prop} {w0 w : wd} {a : Nat} {e : va_E} (h : fr P w0 w) (hn : w0 a = none) : fr P w0 (ws1 w a e) := fun q hq h0 => by
  rw [ws1_n (fun z => h0 (by rw [z]; exact hn))]
  exact h q hq h0
