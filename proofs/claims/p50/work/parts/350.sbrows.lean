/-! rows for texts: String constants, copies of bytes, inherited methods and super -/
theorem nfw7 : nativeFrameWords "java/lang/System" "arraycopy" 5 = 7 := by decide +kernel
section GSB
variable {b : gBt} {l : Launch} {s0 : State} {G : gK} {cc : ByteArray} {own : String} {nL : Nat} {rm : Room} {k n pc : Nat} {L : List (Nat × Value)} {st rest : List Value} {w : wd}
theorem x_anull (Z : gAm b l s0 G cc own nL rm) (d : decode cc pc = .ok (.aconst_null, 1)) (kk : gX b s0 G k n (pc + 1) L (.null :: st) w) : gX b s0 G k n pc L st w := by
  obtain ⟨hx, hb, -⟩ := Z
  exact fun H locs ls hP hS hl => lv_null hx hb d (kk H locs ls hP hS hl)
theorem x_ifnn (Z : gAm b l s0 G cc own nL rm) {a : Nat} {off : Int} (t : Nat) (d : decode cc pc = .ok (.ifnonnull off, 3)) (ht : (pc : Int) + off = (t : Int)) (kk : gX b s0 G k n t L st w) : gX b s0 G k n pc L (rv a :: st) w := by
  obtain ⟨hx, hb, -⟩ := Z
  exact fun H locs ls hP hS hl => lv_ifnonnull hx hb d ht (kk H locs ls hP hS hl)
theorem x_alenB (Z : gAm b l s0 G cc own nL rm) {a len : Nat} {F : Int → Int} (d : decode cc pc = .ok (.arraylength, 1)) (hw : w a = some (eB G len F)) (kk : gX b s0 G k n (pc + 1) L (iv (len : Int) :: st) w) : gX b s0 G k n pc L (rv a :: st) w := by
  obtain ⟨hx, hb, -, -, hE, -⟩ := Z
  exact fun H locs ls hP hS hl => W.alen (n := zI (len : Int)) hx hb (g_arr hP hw) ((hE.2.2.2.2 0 _ rfl).1 len (fun j => iv (F (j : Int)))) (by rw [arrV_size, zI_nat]; rfl) rfl rfl d (kk H locs ls hP hS hl)
theorem fits_byte (x : Int) : fits .byte (iv (bB x)) = true := by
  have h := bB_in x
  have e : (zI (bB x)).toInt = bB x := zI_toInt (by omega) (by omega)
  show (decide ((-128 : Int32) ≤ zI (bB x)) && decide (zI (bB x) ≤ (127 : Int32))) = true
  rw [Bool.and_eq_true]
  exact ⟨decide_eq_true (Int32.le_iff_toInt_le.mpr (by rw [e, show (-128 : Int32).toInt = -128 by decide]; omega)), decide_eq_true (Int32.le_iff_toInt_le.mpr (by rw [e, show (127 : Int32).toInt = 127 by decide]; omega))⟩
def cpF (C D : Int → Int) (sp dp n : Int) : Int → Int := fun j => if dp ≤ j ∧ j < dp + n then C (sp + (j - dp)) else D j
theorem cp_eq {C D : Int → Int} {sp dp n : Int} (h1 : 0 ≤ sp) (h2 : 0 ≤ dp) (h3 : 0 ≤ n) (h4 : sp ≤ 2147483647) (h5 : dp ≤ 2147483647) (h6 : n ≤ 2147483647) : va_cpy (fun k : Nat => zI (sgF C (k : Int))) (fun k : Nat => zI (sgF D (k : Int))) (zI sp).toNatClampNeg (zI dp).toNatClampNeg (zI n).toNatClampNeg = (fun k : Nat => zI (sgF (cpF C D sp dp n) (k : Int))) := by
  have e1 : (zI sp).toNatClampNeg = sp.toNat := by show (zI sp).toInt.toNat = _; rw [zI_toInt (by omega) h4]
  have e2 : (zI dp).toNatClampNeg = dp.toNat := by show (zI dp).toInt.toNat = _; rw [zI_toInt (by omega) h5]
  have e3 : (zI n).toNatClampNeg = n.toNat := by show (zI n).toInt.toNat = _; rw [zI_toInt (by omega) h6]
  rw [e1, e2, e3]
  funext k
  unfold va_cpy sgF cpF
  by_cases h : dp.toNat ≤ k ∧ k < dp.toNat + n.toNat
  · rw [if_pos h]
    show zI (bB (C ((sp.toNat + (k - dp.toNat) : Nat) : Int))) = zI (bB (if dp ≤ (k : Int) ∧ (k : Int) < dp + n then C (sp + ((k : Int) - dp)) else D (k : Int)))
    rw [if_pos (by omega), show ((sp.toNat + (k - dp.toNat) : Nat) : Int) = sp + ((k : Int) - dp) by omega]
  · rw [if_neg h]
    show zI (bB (D (k : Int))) = zI (bB (if dp ≤ (k : Int) ∧ (k : Int) < dp + n then C (sp + ((k : Int) - dp)) else D (k : Int)))
    rw [if_neg (by omega)]
theorem zI_nn {z : Int} (h0 : 0 ≤ z) (h9 : z ≤ 2147483647) : ¬ zI z < 0 := by
  rw [← zI_0]
  exact fun q => by
    have := (zI_lt (by omega) h9 (by omega) (by omega)).mp q
    omega
theorem va_cpyS {H : Heap} {a : Nat} {x : Cell} (hl : a < H.size) : (H.setIfInBounds a x)[a]? = some x := by simp [Array.getElem?_setIfInBounds, hl]
end GSB
section GCP
variable {p : Program} {l : Launch} {e : Env} {R : Room} {s : State} {m : MethodId} {args : Array Value} {below : List Frame} {meth : Method} {c : Code} {H : Heap} {locs : List Loc} {cells slots : Nat} {Q : State → Prop} {cc : ByteArray} {pc : Nat} {ls : Array Slot} {rest : List Value}
theorem g_copyB (hexec : p.tables.exec = Jvm.exec) (hb : c.code = cc) (hml : c.maxLocals = ls.size) {own : String} {index : Nat} (hown : s.vm.findClass own = some m.cls) (hlink : (Cond.methodLink own index arraycopyName).before args s = true) (hnat : (Cond.native arraycopyName).before args s = true) (hstat : (Cond.static arraycopyName).before args s = true) (hini : (Cond.initialized "java/lang/System").before args s = true)
    {c1 : ClassId} {n0 n1 sa da : Nat} {cs : Cell} {f g : Nat → Int32} (hA0 : s.isArrayOf cs .byte) (hA : ArrOfT s c1 .byte) (hc0 : H[sa]? = some cs) (hkn : cs.vm ≠ .unknown) (hsz : n0 ≤ cs.slots.size) (hcs : ∀ j, j < n0 → cs.slots[j]? = some (.int (f j))) (hc1 : H[da]? = some (arrV c1 n1 (fun j => .int (g j)))) {sp dp n : Int32} (h1 : ¬ sp < 0) (h2 : ¬ dp < 0) (h3 : ¬ n < 0) (h4 : sp.toNatClampNeg + n.toNatClampNeg ≤ n0) (h5 : dp.toNatClampNeg + n.toNatClampNeg ≤ n1) (hfit : ∀ i : Nat, i < n.toNatClampNeg → fits .byte (.int (f (sp.toNatClampNeg + i))) = true)
    (hframes : 1 ≤ R.frames) (hlocals : (rest.map fun v => v.category).sum + (nativeFrameWords "java/lang/System" "arraycopy" 5 + 11) ≤ R.locals) (hdg : decode cc pc = .ok (.invokestatic index, 3))
    (kk : ∀ (H1 : Heap) (locs1 : List Loc), H1[da]? = some (arrV c1 n1 (fun j => .int (va_cpy f g sp.toNatClampNeg dp.toNatClampNeg n.toNatClampNeg j))) → H1.size = H.size → (∀ q : Nat, q ≠ da → H1[q]? = H[q]?) → (∀ z ∈ locs1, z ∈ locs ∨ z.base = da) → W p l e R s m args below meth c H1 locs1 cells slots Q (F0 m (pc + 3) ls rest)) : W p l e R s m args below meth c H locs cells slots Q (F0 m pc ls (.int n :: .int dp :: .ref da :: .int sp :: .ref sa :: rest)) := by
  have nn : ∀ z : Int32, ¬ z < 0 → z.toInt = (z.toNatClampNeg : Int) := by
    intro z hz
    have hz0 : (0 : Int) ≤ z.toInt := by
      have := Int32.not_lt.mp hz
      simpa using Int32.le_iff_toInt_le.mp this
    show z.toInt = ((z.toInt.toNat : Nat) : Int)
    omega
  intro T hT X
  obtain ⟨hs6, k0, hk0, cm0, hkk0⟩ := hA0
  obtain ⟨-, k1, hk1, cm1, hkk1⟩ := hA n1 (fun j => .int (g j))
  obtain ⟨vm', X', step⟩ := X.arraycopy hexec hown hlink hnat hstat hini (src := sa) (dst := da) (cs := cs) (cd := arrV c1 n1 (fun j => .int (g j))) (srcPos := sp) (destPos := dp) (n := n) (by rw [hT]; exact hc0) (by rw [hT]; exact hc1)
    hs6 (fun _ h => by cases h) hkn (fun h => by cases h) hk0 hk1 hkk0 hkk1 (by simp [refKind]) h1 h2 h3
    (by rw [nn sp h1, nn n h3]; omega)
    (by rw [nn dp h2, nn n h3]; show ¬ _ > ((arrV c1 n1 (fun j => .int (g j))).slots.size : Int); rw [arrV_size]; omega)
    (fun vm₁ _ i hi => by
      have e : cs.slots.getD (sp.toNatClampNeg + i) .null = .int (f (sp.toNatClampNeg + i)) := by
        rw [Array.getD_eq_getD_getElem?, hcs _ (by omega)]
        rfl
      refine ⟨?_, ?_⟩
      · rw [e]
        exact hfit i hi
      · rw [e]
        exact trivial)
    (g := F0 m pc ls (.int n :: .int dp :: .ref da :: .int sp :: .ref sa :: rest)) rfl (by rw [hml]) (rest := rest) rfl (by rw [hb]; exact hdg) hframes (by show 2 * 0 + _ + _ ≤ _; omega)
  have e1 : copied cs (arrV c1 n1 (fun j => .int (g j))) sp dp n = arrV c1 n1 (fun j => .int (va_cpy f g sp.toNatClampNeg dp.toNatClampNeg n.toNatClampNeg j)) := va_copiedX (fun z => .int z) cs c1 f g hcs h4
  rw [e1] at X' step
  have hl : da < H.size := (Array.getElem?_eq_some_iff.mp hc1).1
  have hheap : ((T.setVm vm').setCell da (arrV c1 n1 (fun j => .int (va_cpy f g sp.toNatClampNeg dp.toNatClampNeg n.toNatClampNeg j)))).heap = H.setIfInBounds da (arrV c1 n1 (fun j => .int (va_cpy f g sp.toNatClampNeg dp.toNatClampNeg n.toNatClampNeg j))) := by rw [← hT]; rfl
  obtain ⟨t, a1, b1⟩ := kk _ _ (show (H.setIfInBounds da _)[da]? = some _ by simp [Array.getElem?_setIfInBounds, hl]) (by simp) (fun q hq => by simp [Array.getElem?_setIfInBounds, Ne.symm hq]) (fun q hq => by
      rcases List.mem_append.mp hq with h | h
      · exact Or.inl h
      · obtain ⟨z, -, hz⟩ := List.mem_map.mp h
        rw [← hz]
        exact Or.inr rfl) _ hheap X'
  exact ⟨t, step t a1, b1⟩
end GCP
section GSB2
variable {b : gBt} {l : Launch} {s0 : State} {G : gK} {cc : ByteArray} {own : String} {nL : Nat} {rm : Room} {k n pc : Nat} {L : List (Nat × Value)} {st rest : List Value} {w : wd}
theorem x_acopy (Z : gAm b l s0 G cc own nL rm) {idx : Nat} (q1 : Cond.methodLink own idx arraycopyName ∈ gT) (q2 : Cond.native arraycopyName ∈ gT) (q3 : Cond.static arraycopyName ∈ gT) (q4 : Cond.initialized "java/lang/System" ∈ gT) (d : decode cc pc = .ok (.invokestatic idx, 3)) {sa da n0 n1 : Nat} {C D : Int → Int} {sp dp m : Int} (hs : w sa = some (eB G n0 (sgF C))) (hd : w da = some (eB G n1 (sgF D))) (h1 : 0 ≤ sp) (h2 : 0 ≤ dp) (h3 : 0 ≤ m) (h4 : sp + m ≤ n0) (h5 : dp + m ≤ n1) (hN0 : n0 < 2147483648) (hN1 : n1 < 2147483648) (hfr : 1 ≤ rm.frames) (hlo : (st.map fun v => v.category).sum + 18 ≤ rm.locals)
    (kk : gX b s0 G k n (pc + 3) L st (ws1 w da (eB G n1 (sgF (cpF C D sp dp m))))) : gX b s0 G k n pc L (iv m :: iv dp :: rv da :: iv sp :: rv sa :: st) w := by
  have w1 := Z.word q1
  have w2 := Z.word q2
  have w3 := Z.word q3
  have w4 := Z.word q4
  obtain ⟨hx, hb, ho, -, hE, -, -, hml, hR, -⟩ := Z
  have y1 : (zI sp).toNatClampNeg = sp.toNat := by show (zI sp).toInt.toNat = _; rw [zI_toInt (by omega) (by omega)]
  have y2 : (zI dp).toNatClampNeg = dp.toNat := by show (zI dp).toInt.toNat = _; rw [zI_toInt (by omega) (by omega)]
  have y3 : (zI m).toNatClampNeg = m.toNat := by show (zI m).toInt.toNat = _; rw [zI_toInt (by omega) (by omega)]
  intro H locs ls hP hS hl
  refine g_copyB hx hb hl.1.symm ho w1 w2 w3 w4 (f := fun j : Nat => zI (sgF C (j : Int))) (g := fun j : Nat => zI (sgF D (j : Int))) ((hE.2.2.2.2 0 _ rfl).1 n0 (fun j => iv (sgF C (j : Int)))) (hE.2.2.2.2 0 _ rfl).1 (g_arr hP hs) (fun h => by cases h) (Nat.le_of_eq (arrV_size _ _ _).symm) (fun j hj => arrV_read _ _ hj) (g_arr hP hd) (zI_nn h1 (by omega)) (zI_nn h2 (by omega)) (zI_nn h3 (by omega)) (by omega) (by omega) (fun i _ => fits_byte _) (by rw [hR]; exact hfr) (by rw [hR, nfw7]; exact hlo) d (fun H1 locs1 e1 z oq hl1 => ?_)
  rw [cp_eq h1 h2 h3 (by omega) (by omega) (by omega)] at e1
  have hbase := (hP _ _ hd).1
  exact kk H1 locs1 ls (hP.set hd e1 oq) ⟨by rw [z]; exact hS.1, fun q g1 g2 => (oq q (fun e => g2 (by rw [e]; exact hbase))).trans (hS.2.1 q g1 g2), fun q hq => by
    rcases hl1 q hq with h | h
    · exact hS.2.2 q h
    · rw [h]
      exact hbase⟩ hl
theorem x_clone (Z : gAm b l s0 G cc own nL rm) {idx : Nat} (q1 : Cond.methodLink own idx ⟨"[B", "clone", "()Ljava/lang/Object;"⟩ ∈ gT) (q2 : Cond.sameMethod "[B" "java/lang/Object" "clone" "()Ljava/lang/Object;" ∈ gT) (q3 : Cond.native ⟨"java/lang/Object", "clone", "()Ljava/lang/Object;"⟩ ∈ gT) (q4 : Cond.instanceMethod ⟨"java/lang/Object", "clone", "()Ljava/lang/Object;"⟩ ∈ gT) (q5 : Cond.selects "[B" ⟨"[B", "clone", "()Ljava/lang/Object;"⟩ ⟨"java/lang/Object", "clone", "()Ljava/lang/Object;"⟩ ∈ gT) (q6 : Cond.castable "[B" "java/lang/Cloneable" ∈ gT) (d : decode cc pc = .ok (.invokevirtual idx, 3)) {a len : Nat} {C : Int → Int} (hw : w a = some (eB G len (sgF C))) (hfr : 1 ≤ rm.frames) (hlo : (st.map fun v => v.category).sum + 14 ≤ rm.locals) (hk : k + 1 ≤ rm.cells) (hn : n + len ≤ rm.slots)
    (kk : ∀ q : Nat, w q = none → gX b s0 G (k + 1) (n + len) (pc + 3) L (rv q :: st) (ws1 w q (eB G len (sgF C)))) : gX b s0 G k n pc L (rv a :: st) w := by
  have w1 := Z.word q1
  have w2 := Z.word q2
  have w3 := Z.word q3
  have w4 := Z.word q4
  have w5 := Z.word q5
  have w6 := Z.word q6
  obtain ⟨hx, hb, ho, -, hE, -, -, hml, hR, -⟩ := Z
  have hnm : (bs b).vm.findClass "[B" = some G.2.1 := (hE.2.2.2.2 0 _ rfl).2
  obtain ⟨c0, t0', f1, f2, f3⟩ := Cond.castable_spec w6
  cases hnm.symm.trans f1
  intro H locs ls hP hS hl T hT X
  have hc := g_arr hP hw
  obtain ⟨-, kA, hkA, comp, hkind⟩ := State.isArrayOf_alike X.warmed.alike ((hE.2.2.2.2 0 _ rfl).1 0 (fun _ => .null))
  obtain ⟨-, kS, hkS, compS, hkindS⟩ := (hE.2.2.2.2 0 _ rfl).1 0 (fun _ => .null)
  obtain ⟨vm', X', st'⟩ := X.cloneArray hx ho w1 w2 w3 w4 w5 (a := a) (cell := arrV G.2.1 len (fun j => iv (sgF C (j : Int)))) (by rw [hT]; exact hc) (fun k h => by cases h) (fun h => by cases h) hnm f2 f3
    (fun i v hv => by
      have hk' : T.vm.classes[G.2.1]? = some kA := hkA
      have hfit : fits .byte v = true := by
        by_cases hi : i < len
        · rw [arrV_read _ _ hi] at hv
          cases hv
          exact fits_byte _
        · rw [Array.getElem?_eq_none (by rw [arrV_size]; omega)] at hv
          cases hv
      simpa [State.fitsSlot, State.slotType?, hk', hkind, arrV] using hfit)
    (g := F0 (bm b) pc ls (rv a :: st)) rfl hl.1 rfl (by rw [hb]; exact d) (by rw [hR]; exact hfr) (by rw [hR]; show 2 * 0 + _ + 14 ≤ _; omega) (by rw [hR]; exact hk) (by rw [hR, arrV_size]; exact hn) (hloader := Vm.clonesLoader_of_array hkS hkindS)
  rw [show ({ cls := (arrV G.2.1 len (fun j => iv (sgF C (j : Int)))).cls, slots := (arrV G.2.1 len (fun j => iv (sgF C (j : Int)))).slots } : Cell) = arrV G.2.1 len (fun j => iv (sgF C (j : Int))) from rfl, arrV_size] at X'
  generalize hH1 : H.push (arrV G.2.1 len (fun j => iv (sgF C (j : Int)))) = H1
  have z1 : H1.size = H.size + 1 := by rw [← hH1, Array.size_push]
  have e1 : H1[H.size]? = some (arrV G.2.1 len (fun j => iv (sgF C (j : Int)))) := by rw [← hH1, Array.getElem?_push_size]
  have o1 : ∀ q : Nat, q < H.size → H1[q]? = H[q]? := fun q hq => by rw [← hH1, Array.getElem?_push, if_neg (Nat.ne_of_lt hq)]
  obtain ⟨p1, p2⟩ := hP.push (e := eB G len (sgF C)) (g_base hE hS) e1 o1
  obtain ⟨t, b1, b2⟩ := kk H.size p2 H1 locs ls p1 (hS.new z1 o1) hl ((T.setVm vm').pushCell (arrV G.2.1 len (fun j => iv (sgF C (j : Int))))) (by rw [← hH1, ← hT]; rfl) X'
  refine ⟨t, st' t ?_, b2⟩
  rw [hT]
  exact b1
theorem x_castB (Z : gAm b l s0 G cc own nL rm) {idx a len : Nat} {F : Int → Int} (q1 : Cond.classLink own idx "[B" ∈ gT) (d : decode cc pc = .ok (.checkcast idx, 3)) (hw : w a = some (eB G len F)) (kk : gX b s0 G k n (pc + 3) L (rv a :: st) w) : gX b s0 G k n pc L (rv a :: st) w := by
  have w1 := Z.word q1
  obtain ⟨hx, hb, ho, -, hE, -⟩ := Z
  exact fun H locs ls hP hS hl => va_castA hx hb ho w1 (hP.one hw) 0 rfl (hE.2.2.2.2 0 _ rfl).2 d (kk H locs ls hP hS hl)
end GSB2
