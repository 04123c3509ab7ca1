section
/-! rows for texts: String constants, copies of bytes, inherited methods and super -/
theorem nfw7 : nativeFrameWords "java/lang/System" "arraycopy" 5 = 7 := by decide +kernel
section GSB
variable {b : gBt} {l : Launch} {s0 : State} {G : gK} {cc : ByteArray} {own : String} {nL : Nat} {rm : Room} {k n pc : Nat} {L : List (Nat × Value)} {st rest : List Value} {w : wd}
theorem x_anull (Z : gAm b l s0 G cc own nL rm) (d : decode cc pc = .ok (.aconst_null, 1)) (kk : gX b s0 G k n (pc + 1) L (.null :: st) w) : gX b s0 G k n pc L st w := by
  obtain ⟨hx, hb, -⟩ := Z
  exact fun H locs ls hP hS hl => lv_null hx hb d (kk H locs ls hP hS hl)
theorem x_ifnn (Z : gAm b l s0 G cc own nL rm) {a : Nat} {off : Int} (t : Nat) (d : decode cc pc = .ok (.ifnonnull off, 3)) (ht : (pc : Int) + off = (t : Int)) (kk : gX b s0 G k n t L st w) : gX b s0 G k n pc L (rv a :: st) w := by
  obtain ⟨hx, hb, -⟩ := Z
  exact fun H locs ls hP hS hl => lv_ifnonnull hx hb d ht (kk H locs ls hP hS hl)
theorem x_alenB (Z : gAm b l s0 G cc own nL rm) {a len : Nat} {F : Int → Int} (d : decode cc pc = .ok (.arraylength, 1)) (hw : w a = some (eB G len F)) (kk : gX b s0 G k n (pc + 1) L (iv (len : Int) :: st) w) : gX b s0 G k n pc L (rv a :: st) w := by
  obtain ⟨hx, hb, -, -, hE, -⟩ := Z
  exact fun H locs ls hP hS hl => W.alen (n := zI (len : Int)) hx hb (g_arr hP hw) ((hE.2.2.2.2 0 _ rfl).1 len (fun j => iv (F (j : Int)))) (by rw [arrV_size, zI_nat]; rfl) rfl rfl d (kk H locs ls hP hS hl)
theorem fits_byte (x : Int) : fits .byte (iv (bB x)) = true := by
  have h := bB_in x
  have e : (zI (bB x)).toInt = bB x := zI_toInt (by omega) (by omega)
  show (decide ((-128 : Int32) ≤ zI (bB x)) && decide (zI (bB x) ≤ (127 : Int32))) = true
  rw [Bool.and_eq_true]
  exact ⟨decide_eq_true (Int32.le_iff_toInt_le.mpr (by rw [e, show (-128 : Int32).toInt = -128 by decide]; omega)), decide_eq_true (Int32.le_iff_toInt_le.mpr (by rw [e, show (127 : Int32).toInt = 127 by decide]; omega))⟩
def cpF (C D : Int → Int) (sp dp n : Int) : Int → Int := fun j => if dp ≤ j ∧ j < dp + n then C (sp + (j - dp)) else D j
theorem cp_eq {C D : Int → Int} {sp dp n : Int} (h1 : 0 ≤ sp) (h2 : 0 ≤ dp) (h3 : 0 ≤ n) (h4 : sp ≤ 2147483647) (h5 : dp ≤ 2147483647) (h6 : n ≤ 2147483647) : va_cpy (fun k : Nat => zI (sgF C (k : Int))) (fun k : Nat => zI (sgF D (k : Int))) (zI sp).toNatClampNeg (zI dp).toNatClampNeg (zI n).toNatClampNeg = (fun k : Nat => zI (sgF (cpF C D sp dp n) (k : Int))) := by
  have e1 : (zI sp).toNatClampNeg = sp.toNat := by show (zI sp).toInt.toNat = _; rw [zI_toInt (by omega) h4]
  have e2 : (zI dp).toNatClampNeg = dp.toNat := by show (zI dp).toInt.toNat = _; rw [zI_toInt (by omega) h5]
  have e3 : (zI n).toNatClampNeg = n.toNat := by show (zI n).toInt.toNat = _; rw [zI_toInt (by omega) h6]
  rw [e1, e2, e3]
  funext k
  unfold va_cpy sgF cpF
  by_cases h : dp.toNat ≤ k ∧ k < dp.toNat + n.toNat
  · rw [if_pos h]
    show zI (bB (C ((sp.toNat + (k - dp.toNat) : Nat) : Int))) = zI (bB (if dp ≤ (k : Int) ∧ (k : Int) < dp + n then C (sp + ((k : Int) - dp)) else D (k : Int)))
    rw [if_pos (by omega), show ((sp.toNat + (k - dp.toNat) : Nat) : Int) = sp + ((k : Int) - dp) by omega]
  · rw [if_neg h]
    show zI (bB (D (k : Int))) = zI (bB (if dp ≤ (k : Int) ∧ (k : Int) < dp + n then C (sp + ((k : Int) - dp)) else D (k : Int)))
    rw [if_neg (by omega)]
theorem zI_nn {z : Int} (h0 : 0 ≤ z) (h9 : z ≤ 2147483647) : ¬ zI z < 0 := by
  rw [← zI_0]
  exact fun q => by
    have := (zI_lt (by omega) h9 (by omega) (by omega)).mp q
    omega
theorem va_cpyS {H : Heap} {a : Nat} {x : Cell} (hl : a < H.size) : (H.setIfInBounds a x)[a]? = some x := by simp [Array.getElem?_setIfInBounds, hl]
end GSB
section GCP
variable {p : Program} {l : Launch} {e : Env} {R : Room} {s : State} {m : MethodId} {args : Array Value} {below : List Frame} {meth : Method} {c : Code} {H : Heap} {locs : List Loc} {cells slots : Nat} {Q : State → Prop} {cc : ByteArray} {pc : Nat} {ls : Array Slot} {rest : List Value}
theorem g_copyB (hexec : p.tables.exec = Jvm.exec) (hb : c.code = cc) (hml : c.maxLocals = ls.size) {own : String} {index : Nat} (hown : s.vm.findClass own = some m.cls) (hlink : (Cond.methodLink own index arraycopyName).before args s = true) (hnat : (Cond.native arraycopyName).before args s = true) (hstat : (Cond.static arraycopyName).before args s = true) (hini : (Cond.initialized "java/lang/System").before args s = true)
    {c1 : ClassId} {n0 n1 sa da : Nat} {cs : Cell} {f g : Nat → Int32} (hA0 : s.isArrayOf cs .byte) (hA : ArrOfT s c1 .byte) (hc0 : H[sa]? = some cs) (hkn : cs.vm ≠ .unknown) (hsz : n0 ≤ cs.slots.size) (hcs : ∀ j, j < n0 → cs.slots[j]? = some (.int (f j))) (hc1 : H[da]? = some (arrV c1 n1 (fun j => .int (g j)))) {sp dp n : Int32} (h1 : ¬ sp < 0) (h2 : ¬ dp < 0) (h3 : ¬ n < 0) (h4 : sp.toNatClampNeg + n.toNatClampNeg ≤ n0) (h5 : dp.toNatClampNeg + n.toNatClampNeg ≤ n1) (hfit : ∀ i : Nat, i < n.toNatClampNeg → fits .byte (.int (f (sp.toNatClampNeg + i))) = true)
    (hframes : 1 ≤ R.frames) (hlocals : (rest.map fun v => v.category).sum + (nativeFrameWords "java/lang/System" "arraycopy" 5 + 11) ≤ R.locals) (hdg : decode cc pc = .ok (.invokestatic index, 3))
    (kk : ∀ (H1 : Heap) (locs1 : List Loc), H1[da]? = some (arrV c1 n1 (fun j => .int (va_cpy f g sp.toNatClampNeg dp.toNatClampNeg n.toNatClampNeg j))) → H1.size = H.size → (∀ q : Nat, q ≠ da → H1[q]? = H[q]?) → (∀ z ∈ locs1, z ∈ locs ∨ z.base = da) → W p l e R s m args below meth c H1 locs1 cells slots Q (F0 m (pc + 3) ls rest)) : W p l e R s m args below meth c H locs cells slots Q (F0 m pc ls (.int n :: .int dp :: .ref da :: .int sp :: .ref sa :: rest)) := by
  have nn : ∀ z : Int32, ¬ z < 0 → z.toInt = (z.toNatClampNeg : Int) := by
    intro z hz
    have hz0 : (0 : Int) ≤ z.toInt := by
      have := Int32.not_lt.mp hz
      simpa using Int32.le_iff_toInt_le.mp this
    show z.toInt = ((z.toInt.toNat : Nat) : Int)
    omega
  intro T hT X
  obtain ⟨hs6, k0, hk0, cm0, hkk0⟩ := hA0
  obtain ⟨-, k1, hk1, cm1, hkk1⟩ := hA n1 (fun j => .int (g j))
  obtain ⟨vm', X', step⟩ := X.arraycopy hexec hown hlink hnat hstat hini (src := sa) (dst := da) (cs := cs) (cd := arrV c1 n1 (fun j => .int (g j))) (srcPos := sp) (destPos := dp) (n := n) (by rw [hT]; exact hc0) (by rw [hT]; exact hc1)
    hs6 (fun _ h => by cases h) hkn (fun h => by cases h) hk0 hk1 hkk0 hkk1 (by simp [refKind]) h1 h2 h3
    (by rw [nn sp h1, nn n h3]; omega)
    (by rw [nn dp h2, nn n h3]; show ¬ _ > ((arrV c1 n1 (fun j => .int (g j))).slots.size : Int); rw [arrV_size]; omega)
    (fun vm₁ _ i hi => by
      have e : cs.slots.getD (sp.toNatClampNeg + i) .null = .int (f (sp.toNatClampNeg + i)) := by
        rw [Array.getD_eq_getD_getElem?, hcs _ (by omega)]
        rfl
      refine ⟨?_, ?_⟩
      · rw [e]
        exact hfit i hi
      · rw [e]
        exact trivial)
    (g := F0 m pc ls (.int n :: .int dp :: .ref da :: .int sp :: .ref sa :: rest)) rfl (by rw [hml]) (rest := rest) rfl (by rw [hb]; exact hdg) hframes (by show 2 * 0 + _ + _ ≤ _; omega)
  have e1 : copied cs (arrV c1 n1 (fun j => .int (g j))) sp dp n = arrV c1 n1 (fun j => .int (va_cpy f g sp.toNatClampNeg dp.toNatClampNeg n.toNatClampNeg j)) := va_copiedX (fun z => .int z) cs c1 f g hcs h4
  rw [e1] at X' step
  have hl : da < H.size := (Array.getElem?_eq_some_iff.mp hc1).1
  have hheap : ((T.setVm vm').setCell da (arrV c1 n1 (fun j => .int (va_cpy f g sp.toNatClampNeg dp.toNatClampNeg n.toNatClampNeg j)))).heap = H.setIfInBounds da (arrV c1 n1 (fun j => .int (va_cpy f g sp.toNatClampNeg dp.toNatClampNeg n.toNatClampNeg j))) := by rw [← hT]; rfl
  obtain ⟨t, a1, b1⟩ := kk _ _ (show (H.setIfInBounds da _)[da]? = some _ by simp [Array.getElem?_setIfInBounds, hl]) (by simp) (fun q hq => by simp [Array.getElem?_setIfInBounds, Ne.symm hq]) (fun q hq => by
      rcases List.mem_append.mp hq with h | h
      · exact Or.inl h
      · obtain ⟨z, -, hz⟩ := List.mem_map.mp h
        rw [← hz]
        exact Or.inr rfl) _ hheap X'
  exact ⟨t, step t a1, b1⟩
end GCP
section GSB2
variable {b : gBt} {l : Launch} {s0 : State} {G : gK} {cc : ByteArray} {own : String} {nL : Nat} {rm : Room} {k n pc : Nat} {L : List (Nat × Value)} {st rest : List Value} {w : wd}
theorem x_acopy (Z : gAm b l s0 G cc own nL rm) {idx : Nat} (q1 : Cond.methodLink own idx arraycopyName ∈ gT) (q2 : Cond.native arraycopyName ∈ gT) (q3 : Cond.static arraycopyName ∈ gT) (q4 : Cond.initialized "java/lang/System" ∈ gT) (d : decode cc pc = .ok (.invokestatic idx, 3)) {sa da n0 n1 : Nat} {C D : Int → Int} {sp dp m : Int} (hs : w sa = some (eB G n0 (sgF C))) (hd : w da = some (eB G n1 (sgF D))) (h1 : 0 ≤ sp) (h2 : 0 ≤ dp) (h3 : 0 ≤ m) (h4 : sp + m ≤ n0) (h5 : dp + m ≤ n1) (hN0 : n0 < 2147483648) (hN1 : n1 < 2147483648) (hfr : 1 ≤ rm.frames) (hlo : (st.map fun v => v.category).sum + 18 ≤ rm.locals)
    (kk : gX b s0 G k n (pc + 3) L st (ws1 w da (eB G n1 (sgF (cpF C D sp dp m))))) : gX b s0 G k n pc L (iv m :: iv dp :: rv da :: iv sp :: rv sa :: st) w := by
  have w1 := Z.word q1
  have w2 := Z.word q2
  have w3 := Z.word q3
  have w4 := Z.word q4
  obtain ⟨hx, hb, ho, -, hE, -, -, hml, hR, -⟩ := Z
  have y1 : (zI sp).toNatClampNeg = sp.toNat := by show (zI sp).toInt.toNat = _; rw [zI_toInt (by omega) (by omega)]
  have y2 : (zI dp).toNatClampNeg = dp.toNat := by show (zI dp).toInt.toNat = _; rw [zI_toInt (by omega) (by omega)]
  have y3 : (zI m).toNatClampNeg = m.toNat := by show (zI m).toInt.toNat = _; rw [zI_toInt (by omega) (by omega)]
  intro H locs ls hP hS hl
  refine g_copyB hx hb hl.1.symm ho w1 w2 w3 w4 (f := fun j : Nat => zI (sgF C (j : Int))) (g := fun j : Nat => zI (sgF D (j : Int))) ((hE.2.2.2.2 0 _ rfl).1 n0 (fun j => iv (sgF C (j : Int)))) (hE.2.2.2.2 0 _ rfl).1 (g_arr hP hs) (fun h => by cases h) (Nat.le_of_eq (arrV_size _ _ _).symm) (fun j hj => arrV_read _ _ hj) (g_arr hP hd) (zI_nn h1 (by omega)) (zI_nn h2 (by omega)) (zI_nn h3 (by omega)) (by omega) (by omega) (fun i _ => fits_byte _) (by rw [hR]; exact hfr) (by rw [hR, nfw7]; exact hlo) d (fun H1 locs1 e1 z oq hl1 => ?_)
  rw [cp_eq h1 h2 h3 (by omega) (by omega) (by omega)] at e1
  have hbase := (hP _ _ hd).1
  exact kk H1 locs1 ls (hP.set hd e1 oq) ⟨by rw [z]; exact hS.1, fun q g1 g2 => (oq q (fun e => g2 (by rw [e]; exact hbase))).trans (hS.2.1 q g1 g2), fun q hq => by
    rcases hl1 q hq with h | h
    · exact hS.2.2 q h
    · rw [h]
      exact hbase⟩ hl
theorem x_clone (Z : gAm b l s0 G cc own nL rm) {idx : Nat} (q1 : Cond.methodLink own idx ⟨"[B", "clone", "()Ljava/lang/Object;"⟩ ∈ gT) (q2 : Cond.sameMethod "[B" "java/lang/Object" "clone" "()Ljava/lang/Object;" ∈ gT) (q3 : Cond.native ⟨"java/lang/Object", "clone", "()Ljava/lang/Object;"⟩ ∈ gT) (q4 : Cond.instanceMethod ⟨"java/lang/Object", "clone", "()Ljava/lang/Object;"⟩ ∈ gT) (q5 : Cond.selects "[B" ⟨"[B", "clone", "()Ljava/lang/Object;"⟩ ⟨"java/lang/Object", "clone", "()Ljava/lang/Object;"⟩ ∈ gT) (q6 : Cond.castable "[B" "java/lang/Cloneable" ∈ gT) (d : decode cc pc = .ok (.invokevirtual idx, 3)) {a len : Nat} {C : Int → Int} (hw : w a = some (eB G len (sgF C))) (hfr : 1 ≤ rm.frames) (hlo : (st.map fun v => v.category).sum + 14 ≤ rm.locals) (hk : k + 1 ≤ rm.cells) (hn : n + len ≤ rm.slots)
    (kk : ∀ q : Nat, w q = none → gX b s0 G (k + 1) (n + len) (pc + 3) L (rv q :: st) (ws1 w q (eB G len (sgF C)))) : gX b s0 G k n pc L (rv a :: st) w := by
  have w1 := Z.word q1
  have w2 := Z.word q2
  have w3 := Z.word q3
  have w4 := Z.word q4
  have w5 := Z.word q5
  have w6 := Z.word q6
  obtain ⟨hx, hb, ho, -, hE, -, -, hml, hR, -⟩ := Z
  have hnm : (bs b).vm.findClass "[B" = some G.2.1 := (hE.2.2.2.2 0 _ rfl).2
  obtain ⟨c0, t0', f1, f2, f3⟩ := Cond.castable_spec w6
  cases hnm.symm.trans f1
  intro H locs ls hP hS hl T hT X
  have hc := g_arr hP hw
  obtain ⟨-, kA, hkA, comp, hkind⟩ := State.isArrayOf_alike X.warmed.alike ((hE.2.2.2.2 0 _ rfl).1 0 (fun _ => .null))
  obtain ⟨-, kS, hkS, compS, hkindS⟩ := (hE.2.2.2.2 0 _ rfl).1 0 (fun _ => .null)
  obtain ⟨vm', X', st'⟩ := X.cloneArray hx ho w1 w2 w3 w4 w5 (a := a) (cell := arrV G.2.1 len (fun j => iv (sgF C (j : Int)))) (by rw [hT]; exact hc) (fun k h => by cases h) (fun h => by cases h) hnm f2 f3
    (fun i v hv => by
      have hk' : T.vm.classes[G.2.1]? = some kA := hkA
      have hfit : fits .byte v = true := by
        by_cases hi : i < len
        · rw [arrV_read _ _ hi] at hv
          cases hv
          exact fits_byte _
        · rw [Array.getElem?_eq_none (by rw [arrV_size]; omega)] at hv
          cases hv
      simpa [State.fitsSlot, State.slotType?, hk', hkind, arrV] using hfit)
    (g := F0 (bm b) pc ls (rv a :: st)) rfl hl.1 rfl (by rw [hb]; exact d) (by rw [hR]; exact hfr) (by rw [hR]; show 2 * 0 + _ + 14 ≤ _; omega) (by rw [hR]; exact hk) (by rw [hR, arrV_size]; exact hn) (hloader := Vm.clonesLoader_of_array hkS hkindS)
  rw [show ({ cls := (arrV G.2.1 len (fun j => iv (sgF C (j : Int)))).cls, slots := (arrV G.2.1 len (fun j => iv (sgF C (j : Int)))).slots } : Cell) = arrV G.2.1 len (fun j => iv (sgF C (j : Int))) from rfl, arrV_size] at X'
  generalize hH1 : H.push (arrV G.2.1 len (fun j => iv (sgF C (j : Int)))) = H1
  have z1 : H1.size = H.size + 1 := by rw [← hH1, Array.size_push]
  have e1 : H1[H.size]? = some (arrV G.2.1 len (fun j => iv (sgF C (j : Int)))) := by rw [← hH1, Array.getElem?_push_size]
  have o1 : ∀ q : Nat, q < H.size → H1[q]? = H[q]? := fun q hq => by rw [← hH1, Array.getElem?_push, if_neg (Nat.ne_of_lt hq)]
  obtain ⟨p1, p2⟩ := hP.push (e := eB G len (sgF C)) (g_base hE hS) e1 o1
  obtain ⟨t, b1, b2⟩ := kk H.size p2 H1 locs ls p1 (hS.new z1 o1) hl ((T.setVm vm').pushCell (arrV G.2.1 len (fun j => iv (sgF C (j : Int))))) (by rw [← hH1, ← hT]; rfl) X'
  refine ⟨t, st' t ?_, b2⟩
  rw [hT]
  exact b1
theorem x_castB (Z : gAm b l s0 G cc own nL rm) {idx a len : Nat} {F : Int → Int} (q1 : Cond.classLink own idx "[B" ∈ gT) (d : decode cc pc = .ok (.checkcast idx, 3)) (hw : w a = some (eB G len F)) (kk : gX b s0 G k n (pc + 3) L (rv a :: st) w) : gX b s0 G k n pc L (rv a :: st) w := by
  have w1 := Z.word q1
  obtain ⟨hx, hb, ho, -, hE, -⟩ := Z
  exact fun H locs ls hP hS hl => va_castA hx hb ho w1 (hP.one hw) 0 rfl (hE.2.2.2.2 0 _ rfl).2 d (kk H locs ls hP hS hl)
end GSB2
end
section
/-! rows for texts: inherited methods, super, String constants -/
section GS3
variable {b : gBt} {l : Launch} {s0 : State} {G : gK} {cc : ByteArray} {own : String} {nL : Nat} {rm : Room} {k n pc : Nat} {L : List (Nat × Value)} {st rest : List Value} {w : wd}
theorem x_callU (Z : gAm b l s0 G cc own nL rm) {x y : MethodName} {bytes : ByteArray} {maxL index na a ci N : Nat} {C owner : String} {T : u_T} {fs : List Value} {ret : Option FieldType} {rm' : Room} {As : List Value} {Rt : Option Value → wd → Prop} (hok : gOk y bytes maxL ret na) (hlk : Cond.methodLink own index x ∈ gT) (hsm : Cond.sameMethod x.cls owner x.name x.desc ∈ gT) (hi : Cond.instanceMethod y ∈ gT) (hs : Cond.selects C x y ∈ gT) (hyx : y = ⟨owner, x.name, x.desc⟩) (how : owner ≠ "java/lang/invoke/MethodHandle" ∧ owner ≠ "java/lang/invoke/VarHandle") (hc : vwCl[ci]? = some (C, T, N)) (d : decode cc pc = .ok (.invokevirtual index, 3)) (hM : gM l s0 G y [Cond.code y bytes maxL ret] rm' (rv a :: As) w Rt noX) (hw : w a = some (eO ci fs)) (hroom : rmIn rm' rm maxL k n) (hna : As.length = na) (hst : st = As.reverse ++ rv a :: rest) (hcat : (rest.map fun v => v.category).sum ≤ 8)
    (kk : ∀ (v : Option Value) (w' : wd), Rt v w' → gX b s0 G (k + rm'.cells) (n + rm'.slots) (pc + 3) L (v.toList ++ rest) w') : gX b s0 G k n pc L st w := by
  have h1 := Z.word hok.1
  have h2 := Z.word hok.2.1
  have h3 := Z.word hlk
  have h4 := Z.word hsm
  have h5 := Z.word hi
  have h6 := Z.word hs
  have hfx := g_fix Z
  obtain ⟨-, -, -, -, hE, -, -, hml, hR, hbl⟩ := Z
  subst hst
  rw [← hbl] at hM
  have hd : y.desc = x.desc := by rw [hyx]
  exact fun H locs ls hP hS hl => g_beh (va_runU hfx (g_met hM) ⟨⟨rfl, rfl, by rw [hR]; exact hroom.1, by rw [hR]; exact hroom.2.1, g_ws h1, List.mem_singleton.mpr rfl⟩, h1, h2, how, g_par (y := ⟨x.cls, x.name, x.desc⟩) (by show (parseMethodDescriptor x.desc).map _ = _; rw [← hd]; exact hok.2.2.2), h3, h4, (by rw [← hyx]; exact va_Decl.of h5 h1), h6, h5⟩ ⟨g_blind, g_rcv hE hP hw hc, g_pc hE hP hS⟩ rfl hna (hl.1.trans hml) rfl (lv_room hcat) d ⟨by rw [hR]; exact hroom.2.2.1, by rw [hR]; exact hroom.2.2.2⟩) hS hl kk
theorem x_callU2 (Z : gAm b l s0 G cc own nL rm) {x y : MethodName} {bytes : ByteArray} {maxL index na a ci N : Nat} {C owner : String} {T : u_T} {fs : List Value} {ret : Option FieldType} {rm' : Room} {As : List Value} {Rt : Option Value → wd → Prop} (hok : gOk y bytes maxL ret na) (hlk : Cond.methodLink own index x ∈ gT) (hsm : Cond.sameMethod x.cls owner x.name x.desc ∈ gT) (hi : Cond.instanceMethod y ∈ gT) (hs : Cond.selects C x y ∈ gT) (hd : y.desc = x.desc) {bytes9 : ByteArray} {maxL9 na9 : Nat} {ret9 : Option FieldType} (hok9 : gOk ⟨owner, x.name, x.desc⟩ bytes9 maxL9 ret9 na9) (hi9 : Cond.instanceMethod ⟨owner, x.name, x.desc⟩ ∈ gT) (how : owner ≠ "java/lang/invoke/MethodHandle" ∧ owner ≠ "java/lang/invoke/VarHandle") (hc : vwCl[ci]? = some (C, T, N)) (d : decode cc pc = .ok (.invokevirtual index, 3)) (hM : gM l s0 G y [Cond.code y bytes maxL ret] rm' (rv a :: As) w Rt noX) (hw : w a = some (eO ci fs)) (hroom : rmIn rm' rm maxL k n) (hna : As.length = na) (hst : st = As.reverse ++ rv a :: rest) (hcat : (rest.map fun v => v.category).sum ≤ 8)
    (kk : ∀ (v : Option Value) (w' : wd), Rt v w' → gX b s0 G (k + rm'.cells) (n + rm'.slots) (pc + 3) L (v.toList ++ rest) w') : gX b s0 G k n pc L st w := by
  have h1 := Z.word hok.1
  have h2 := Z.word hok.2.1
  have h3 := Z.word hlk
  have h4 := Z.word hsm
  have h5 := Z.word hi
  have h6 := Z.word hs
  have h7 := Z.word hok9.1
  have h8 := Z.word hi9
  have hfx := g_fix Z
  obtain ⟨-, -, -, -, hE, -, -, hml, hR, hbl⟩ := Z
  subst hst
  rw [← hbl] at hM
  exact fun H locs ls hP hS hl => g_beh (va_runU hfx (g_met hM) ⟨⟨rfl, rfl, by rw [hR]; exact hroom.1, by rw [hR]; exact hroom.2.1, g_ws h1, List.mem_singleton.mpr rfl⟩, h1, h2, how, g_par (y := ⟨x.cls, x.name, x.desc⟩) (by show (parseMethodDescriptor x.desc).map _ = _; rw [← hd]; exact hok.2.2.2), h3, h4, (va_Decl.of h8 h7), h6, h5⟩ ⟨g_blind, g_rcv hE hP hw hc, g_pc hE hP hS⟩ rfl hna (hl.1.trans hml) rfl (lv_room hcat) d ⟨by rw [hR]; exact hroom.2.2.1, by rw [hR]; exact hroom.2.2.2⟩) hS hl kk
theorem k_selP {C : String} {L0 y : MethodName} {s : State} {args : Array Value} (hy : y.cls ≠ "java/lang/invoke/MethodHandle" ∧ y.cls ≠ "java/lang/invoke/VarHandle") (hcl : L0.cls = y.cls) (hL : (Cond.selects C L0 L0).before args s = true) (hpriv : (Cond.privateMethod y).before args s = true) (hinst : (Cond.instanceMethod y).before args s = true) : (Cond.selects C y y).before args s = true := by
  obtain ⟨c, r2, m2, hc, -, hm2, -, kP, hkP, hkPi⟩ := Cond.selects_spec hL
  obtain ⟨mk, methM, hnamed, hmethM, -, -⟩ := Cond.instanceMethod_spec hinst
  have hfound : s.methodFound? y.cls y.name y.desc = some mk := State.methodFound?_of_named hnamed hy
  have e1 := findClass_of_methodNamed hnamed
  have e2 := findClass_of_methodNamed hm2
  rw [hcl] at e2
  have hcls : mk.cls = m2.cls := Option.some.inj (e1.symm.trans e2)
  have hsel : selectMethod {} s.vm c mk = .method mk := selectMethod_private hmethM (Cond.privateMethod_at hpriv mk methM hnamed hmethM)
  simp only [Cond.before, Cond.holds, Cond.value, hc, hfound, hnamed, hsel, hcls, hkP]
  simp
  exact hkPi
theorem x_callP (Z : gAm b l s0 G cc own nL rm) {y L0 : MethodName} {bytes : ByteArray} {maxL index na a ci N : Nat} {C : String} {T : u_T} {fs : List Value} {ret : Option FieldType} {rm' : Room} {As : List Value} {Rt : Option Value → wd → Prop} (hok : gOk y bytes maxL ret na) (hlk : Cond.methodLink own index y ∈ gT) (hsm : Cond.sameMethod y.cls y.cls y.name y.desc ∈ gT) (hi : Cond.instanceMethod y ∈ gT) (hpr : Cond.privateMethod y ∈ lw_tbl) (hs : Cond.selects C L0 L0 ∈ gT) (hcl : L0.cls = y.cls) (how : y.cls ≠ "java/lang/invoke/MethodHandle" ∧ y.cls ≠ "java/lang/invoke/VarHandle") (hc : vwCl[ci]? = some (C, T, N)) (d : decode cc pc = .ok (.invokevirtual index, 3)) (hM : gM l s0 G y [Cond.code y bytes maxL ret] rm' (rv a :: As) w Rt noX) (hw : w a = some (eO ci fs)) (hroom : rmIn rm' rm maxL k n) (hna : As.length = na) (hst : st = As.reverse ++ rv a :: rest) (hcat : (rest.map fun v => v.category).sum ≤ 8)
    (kk : ∀ (v : Option Value) (w' : wd), Rt v w' → gX b s0 G (k + rm'.cells) (n + rm'.slots) (pc + 3) L (v.toList ++ rest) w') : gX b s0 G k n pc L st w := by
  have h1 := Z.word hok.1
  have h2 := Z.word hok.2.1
  have h3 := Z.word hlk
  have h4 := Z.word hsm
  have h5 := Z.word hi
  have hfx := g_fix Z
  obtain ⟨-, -, -, h0, hE, -, -, hml, hR, hbl⟩ := Z
  obtain ⟨a0, g1, -⟩ := h0
  have h6 : (Cond.selects C y y).before (ba b) (bs b) = true := word_at hE.1 (good_of_word rfl) (k_selP how hcl (g1 _ (List.mem_filter.mp hs).1) (g1 _ hpr) (g1 _ (List.mem_filter.mp hi).1))
  subst hst
  rw [← hbl] at hM
  exact fun H locs ls hP hS hl => g_beh (va_runU hfx (g_met hM) ⟨⟨rfl, rfl, by rw [hR]; exact hroom.1, by rw [hR]; exact hroom.2.1, g_ws h1, List.mem_singleton.mpr rfl⟩, h1, h2, how, g_par hok.2.2.2, h3, h4, va_Decl.of h5 h1, h6, h5⟩ ⟨g_blind, g_rcv hE hP hw hc, g_pc hE hP hS⟩ rfl hna (hl.1.trans hml) rfl (lv_room hcat) d ⟨by rw [hR]; exact hroom.2.2.1, by rw [hR]; exact hroom.2.2.2⟩) hS hl kk
theorem x_callSU (Z : gAm b l s0 G cc own nL rm) {y : MethodName} {bytes : ByteArray} {maxL index na a ci N : Nat} {C : String} {T : u_T} {fs : List Value} {ret : Option FieldType} {rm' : Room} {As : List Value} {Rt : Option Value → wd → Prop} (hok : gOk y bytes maxL ret na) (hlk : Cond.methodLink own index y ∈ gT) (hsm : Cond.sameMethod y.cls y.cls y.name y.desc ∈ gT) (hsu : Cond.superclass own y.cls ∈ gT) (hi : Cond.instanceMethod y ∈ gT) (hno : y.name ≠ "<init>") (hc : vwCl[ci]? = some (C, T, N)) (d : decode cc pc = .ok (.invokespecial index, 3)) (hM : gM l s0 G y [Cond.code y bytes maxL ret] rm' (rv a :: As) w Rt noX) (hw : w a = some (eO ci fs)) (hroom : rmIn rm' rm maxL k n) (hna : As.length = na) (hst : st = As.reverse ++ rv a :: rest) (hcat : (rest.map fun v => v.category).sum ≤ 8)
    (kk : ∀ (v : Option Value) (w' : wd), Rt v w' → gX b s0 G (k + rm'.cells) (n + rm'.slots) (pc + 3) L (v.toList ++ rest) w') : gX b s0 G k n pc L st w := by
  have h1 := Z.word hok.1
  have h2 := Z.word hok.2.1
  have h3 := Z.word hlk
  have h4 := Z.word hsm
  have h5 := Z.word hi
  have h6 := Z.word hsu
  have hfx := g_fix Z
  obtain ⟨-, -, -, -, hE, -, -, hml, hR, hbl⟩ := Z
  subst hst
  rw [← hbl] at hM
  exact fun H locs ls hP hS hl => g_beh (va_runSU (hE.2.2.2.1 ci _ hc).2 hfx (g_met hM) ⟨⟨rfl, rfl, by rw [hR]; exact hroom.1, by rw [hR]; exact hroom.2.1, g_ws h1, List.mem_singleton.mpr rfl⟩, h3, h4, h6, h5, h2, h1, hno, g_par hok.2.2.2⟩ ⟨g_blind, g_rcv hE hP hw hc, g_pc hE hP hS⟩ rfl hna (hl.1.trans hml) rfl (lv_room hcat) d ⟨by rw [hR]; exact hroom.2.2.1, by rw [hR]; exact hroom.2.2.2⟩) hS hl kk
/-- a String constant: its object, its bytes -/
def sC (s0 : State) (q v len : Nat) (f : Int → Int) : Prop := va_O "java/lang/String" q (gA s0) s0 s0.heap ∧ va_OF "java/lang/String" "coder" "B" (iv 0) q (gA s0) s0 s0.heap ∧ va_OF "java/lang/String" "value" "[B" (.ref v) q (gA s0) s0 s0.heap ∧ va_T .byte v len (fun j => iv (sgF f (j : Int))) (gA s0) s0 s0.heap
theorem x_ldcS (Z : gAm b l s0 G cc own nL rm) {tx : String} {idx q : Nat} (hR : vk_R own idx tx q s0) (d : decode cc pc = .ok (.ldc idx, 2)) (kk : gX b s0 G k n (pc + 2) L (rv q :: st) w) : gX b s0 G k n pc L st w := by
  obtain ⟨hx, hb, ho, -, hE, -⟩ := Z
  have h := vk_R.warm hE.1 hR
  exact fun H locs ls hP hS hl => va_ldcS hx hb ho h d (kk H locs ls hP hS hl)
theorem x_getfC (Z : gAm b l s0 G cc own nL rm) {o nm fd ref : String} {idx q : Nat} {v : Value} (hF : va_OF o nm fd v q (gA s0) s0 s0.heap) (hlk : Cond.fieldLink own idx ref nm fd ∈ gT) (href : o = ref) (d : decode cc pc = .ok (.getfield idx, 3)) (kk : gX b s0 G k n (pc + 3) L (v :: st) w) : gX b s0 G k n pc L (rv q :: st) w := by
  have hlk' := Z.word hlk
  obtain ⟨hx, hb, ho, -, hE, -⟩ := Z
  subst href
  exact fun H locs ls hP hS hl => vk_getf hx hb (va_OF.moved hE.1.alike (va_OF.kept hF (fun a ha _ => hE.2.2.1 a ha))) hS ho hlk' (fun _ h => h) d (kk H locs ls hP hS hl)
theorem x_alenT (Z : gAm b l s0 G cc own nL rm) {ty : FieldType} {t N : Nat} {f : Nat → Value} (hT : va_T ty t N f (gA s0) s0 s0.heap) (d : decode cc pc = .ok (.arraylength, 1)) (kk : gX b s0 G k n (pc + 1) L (iv (N : Int) :: st) w) : gX b s0 G k n pc L (rv t :: st) w := by
  obtain ⟨hx, hb, ho, -, hE, -⟩ := Z
  exact fun H locs ls hP hS hl => va_tlen hx hb (st_mvT hE hT) hS (v := zI (N : Int)) (zI_nat N).symm d (kk H locs ls hP hS hl)
theorem x_acopyT (Z : gAm b l s0 G cc own nL rm) {idx : Nat} (q1 : Cond.methodLink own idx arraycopyName ∈ gT) (q2 : Cond.native arraycopyName ∈ gT) (q3 : Cond.static arraycopyName ∈ gT) (q4 : Cond.initialized "java/lang/System" ∈ gT) (d : decode cc pc = .ok (.invokestatic idx, 3)) {t da n0 n1 : Nat} {C D : Int → Int} {sp dp m : Int} (hT : va_T .byte t n0 (fun j => iv (sgF C (j : Int))) (gA s0) s0 s0.heap) (hd : w da = some (eB G n1 (sgF D))) (h1 : 0 ≤ sp) (h2 : 0 ≤ dp) (h3 : 0 ≤ m) (h4 : sp + m ≤ n0) (h5 : dp + m ≤ n1) (hN0 : n0 < 2147483648) (hN1 : n1 < 2147483648) (hfr : 1 ≤ rm.frames) (hlo : (st.map fun v => v.category).sum + 18 ≤ rm.locals)
    (kk : gX b s0 G k n (pc + 3) L st (ws1 w da (eB G n1 (sgF (cpF C D sp dp m))))) : gX b s0 G k n pc L (iv m :: iv dp :: rv da :: iv sp :: rv t :: st) w := by
  have w1 := Z.word q1
  have w2 := Z.word q2
  have w3 := Z.word q3
  have w4 := Z.word q4
  obtain ⟨hx, hb, ho, -, hE, -, -, hml, hR, -⟩ := Z
  have y1 : (zI sp).toNatClampNeg = sp.toNat := by show (zI sp).toInt.toNat = _; rw [zI_toInt (by omega) (by omega)]
  have y2 : (zI dp).toNatClampNeg = dp.toNat := by show (zI dp).toInt.toNat = _; rw [zI_toInt (by omega) (by omega)]
  have y3 : (zI m).toNatClampNeg = m.toNat := by show (zI m).toInt.toNat = _; rw [zI_toInt (by omega) (by omega)]
  intro H locs ls hP hS hl
  obtain ⟨scr, hs1, hs2, hs3, hs4, -, hs5, hs7⟩ := st_mvT hE hT
  have hc0 : H[t]? = some scr := by rw [hS.2.1 t (Array.getElem?_eq_some_iff.mp hs1).1 hs7]; exact hs1
  refine g_copyB hx hb hl.1.symm ho w1 w2 w3 w4 (f := fun j : Nat => zI (sgF C (j : Int))) (g := fun j : Nat => zI (sgF D (j : Int))) hs2 (hE.2.2.2.2 0 _ rfl).1 hc0 hs3 hs4 hs5 (g_arr hP hd) (zI_nn h1 (by omega)) (zI_nn h2 (by omega)) (zI_nn h3 (by omega)) (by omega) (by omega) (fun i _ => fits_byte _) (by rw [hR]; exact hfr) (by rw [hR, nfw7]; exact hlo) d (fun H1 locs1 e1 z oq hl1 => ?_)
  rw [cp_eq h1 h2 h3 (by omega) (by omega) (by omega)] at e1
  have hbase := (hP _ _ hd).1
  exact kk H1 locs1 ls (hP.set hd e1 oq) ⟨by rw [z]; exact hS.1, fun q g1 g2 => (oq q (fun e => g2 (by rw [e]; exact hbase))).trans (hS.2.1 q g1 g2), fun q hq => by
    rcases hl1 q hq with h | h
    · exact hS.2.2 q h
    · rw [h]
      exact hbase⟩ hl
theorem x_callVC (Z : gAm b l s0 G cc own nL rm) {y : MethodName} {bytes : ByteArray} {maxL index na q v len : Nat} {f : Int → Int} {ret : Option FieldType} {rm' : Room} {As : List Value} {Rt : Option Value → wd → Prop} (hok : gOk y bytes maxL ret na) (hlk : Cond.methodLink own index y ∈ gT) (hi : Cond.instanceMethod y ∈ gT) (hs : Cond.selects "java/lang/String" y y ∈ gT) (d : decode cc pc = .ok (.invokevirtual index, 3)) (hM : gM l s0 G y [Cond.code y bytes maxL ret] rm' (rv q :: As) w Rt noX) (hq : sC s0 q v len f) (hroom : rmIn rm' rm maxL k n) (hna : As.length = na) (hst : st = As.reverse ++ rv q :: rest) (hcat : (rest.map fun v => v.category).sum ≤ 8)
    (kk : ∀ (v : Option Value) (w' : wd), Rt v w' → gX b s0 G (k + rm'.cells) (n + rm'.slots) (pc + 3) L (v.toList ++ rest) w') : gX b s0 G k n pc L st w := by
  have hcb := g_callB Z hok hlk hroom
  have h1 := Z.word hi
  have h2 := Z.word hs
  have hfx := g_fix Z
  obtain ⟨-, -, -, -, hE, -, -, hml, hR, hbl⟩ := Z
  subst hst
  rw [← hbl] at hM
  refine fun H locs ls hP hS hl => ?_
  obtain ⟨cell, r1, r2, r3, -⟩ := (va_O.moved hE.1.alike (va_O.kept hq.1 (fun a ha _ => hE.2.2.1 a ha))).kept hS.2.1
  exact g_beh (va_runV hfx (g_met hM) ⟨hcb, h1, h2⟩ ⟨g_blind, ⟨cell, r1, r2, r3⟩, g_pc hE hP hS⟩ rfl hna (hl.1.trans hml) rfl (lv_room hcat) d ⟨by rw [hR]; exact hroom.2.2.1, by rw [hR]; exact hroom.2.2.2⟩) hS hl kk
end GS3
theorem str_of {s0 : State} {own tx : String} {k len : Nat} {bs : List Int32} {f : Int → Int} (h0 : gS0 s0) (hln : len < 2147483648) (h1 : Cond.stringRef own k tx ∈ lw_tbl) (h2 : Cond.exactly (.string own k) "java/lang/String" ∈ flatC (Jvm.Cond.and given_1 narrow_1)) (h3 : Cond.eq (.field (.string own k) "java/lang/String" "coder" "B") (.int 0) ∈ flatC (Jvm.Cond.and given_1 narrow_1)) (h4 : Cond.arrayOf (.field (.string own k) "java/lang/String" "value" "[B") .byte ∈ flatC (Jvm.Cond.and given_1 narrow_1)) (h5 : Cond.eq (.length (.field (.string own k) "java/lang/String" "value" "[B")) (.int (Int32.ofNat len)) ∈ flatC (Jvm.Cond.and given_1 narrow_1)) (h6 : ∀ j : Nat, j < len → Cond.eq (.elem (.field (.string own k) "java/lang/String" "value" "[B") (.int (Int32.ofNat j))) (.int (bs.getD j 0)) ∈ flatC (Jvm.Cond.and given_1 narrow_1)) (h7 : ∀ j : Nat, j < len → bs.getD j 0 = zI (sgF f (j : Int))) : ∃ q v, sC s0 q v len f ∧ vk_R own k tx q s0 := by
  obtain ⟨a0, g1, g2⟩ := h0
  have hf := flat_of_before _ g2
  obtain ⟨adK, adV, ⟨k1, k2⟩, k3⟩ := vk_Sof (args := a0) (s := s0) (N := 1) (tm := fun _ => .string own k) (len := [len]) (byt := [bs]) (A := gA s0) (fun i hi => by obtain rfl : i = 0 := (by omega); exact hln) (fun i _ => hf _ h2) (fun i _ => hf _ h3) (fun i _ => hf _ h4) (fun i hi => by obtain rfl : i = 0 := (by omega); exact hf _ h5) (fun i hi j hj => by obtain rfl : i = 0 := (by omega); exact hf _ (h6 j hj)) (fun i j hi hj hij => absurd (by omega) hij) (fun a h => Nat.not_le.mpr h)
  obtain ⟨r1, r2, r3, r4⟩ := k1 0 (by omega)
  refine ⟨adK 0, adV 0, ⟨r1, by rw [show iv 0 = Value.int 0 from congrArg Value.int zI_0]; exact r2, r3, ?_⟩, vk_R.of (A := a0) (g1 _ h1) ?_⟩
  · obtain ⟨c, x1, x2, x3, x4, x5, x6, x7⟩ := r4
    exact ⟨c, x1, x2, x3, x4, x5, fun j hj => (x6 j hj).trans (congrArg (fun z => some (Value.int z)) (h7 j hj)), x7⟩
  · have h := k3 0 (by omega)
    exact (Term.string_eval_of_vm (args := #[]) (args' := a0) (U := s0) (V := s0) rfl).trans h
end
section
/-! texts: statics, digits, a StringBuilder -/
section GS4
variable {b : gBt} {l : Launch} {s0 : State} {G : gK} {cc : ByteArray} {own : String} {nL : Nat} {rm : Room} {k n pc : Nat} {L : List (Nat × Value)} {st rest : List Value} {w : wd}
theorem x_aretA (Z : gAm b l s0 G cc own nL rm) {t : FieldType} {nm : String} {tb : List ExceptionTableEntry} {Rt : Option Value → wd → Prop} {Xt : String → wd → Prop} (E : gQm b s0 G (some (.array t)) rm nm tb Rt Xt) {x : Nat} (hR : Rt (some (rv x)) w) (d : decode cc pc = .ok (.areturn, 1)) (hk : k ≤ rm.cells) (hn : n ≤ rm.slots) : gX b s0 G k n pc L [rv x] w := by
  obtain ⟨hx, hb, ho, -, hE, hlk, -⟩ := Z
  obtain ⟨hr, -, hq, -⟩ := E
  intro H locs ls hP hS hl
  rw [hq]
  exact W.widen hk hn (vx_ret (W.aret hx hb hr (Or.inr ⟨t, rfl⟩) (Or.inr ⟨x, rfl⟩) (fun t ht hW => ⟨⟨_, w, rfl, hR, by rw [ht]; exact hP⟩, hS.F ht⟩) hS.2.2 d hlk))
theorem x_bret (Z : gAm b l s0 G cc own nL rm) {nm : String} {tb : List ExceptionTableEntry} {Rt : Option Value → wd → Prop} {Xt : String → wd → Prop} (E : gQm b s0 G (some .byte) rm nm tb Rt Xt) {x : Int} (hx0 : narrow .byte (iv x) = iv x) (hR : Rt (some (iv x)) w) (d : decode cc pc = .ok (.ireturn, 1)) (hk : k ≤ rm.cells) (hn : n ≤ rm.slots) : gX b s0 G k n pc L [iv x] w := by
  obtain ⟨hx, hb, ho, -, hE, hlk, -⟩ := Z
  obtain ⟨hr, -, hq, -⟩ := E
  intro H locs ls hP hS hl
  rw [hq]
  exact W.widen hk hn (vx_ret (W.zret hx hb hr hx0 (fun t ht hW => ⟨⟨_, w, rfl, hR, by rw [ht]; exact hP⟩, hS.F ht⟩) hS.2.2 d hlk))
def dgO (j : Int) : Int := 48 + j % 10
def dgTen (j : Int) : Int := 48 + j / 10
set_option maxRecDepth 100000 in
theorem sl_DO : (List.range 100).map (fun j : Nat => Cond.eq (.elem (.static "java/lang/Integer" "DigitOnes" "[B") (.int (Int32.ofNat j))) (.int (zI (dgO (j : Int))))) = ((flatC (Jvm.Cond.and given_1 narrow_1)).drop 306).take 100 := by (rw [fl_eq]; decide +kernel)
theorem sq_DO : ∀ j, j < 100 → (fun j : Nat => Cond.eq (.elem (.static "java/lang/Integer" "DigitOnes" "[B") (.int (Int32.ofNat j))) (.int (zI (dgO (j : Int))))) j ∈ flatC (Jvm.Cond.and given_1 narrow_1) := fun j hj => List.mem_of_mem_drop (i := 306) (List.mem_of_mem_take (i := 100) (by rw [← sl_DO]; exact List.mem_map.mpr ⟨j, List.mem_range.mpr hj, rfl⟩))
set_option maxRecDepth 100000 in
theorem st_DO (h0 : gS0 s0) (Z : gAm b l s0 G cc own nL rm) : ∃ t : Nat, va_Z "java/lang/Integer" "DigitOnes" "[B" (.ref t) (gA s0) (bs b) (bs b).heap ∧ va_T .byte t 100 (fun j => iv (dgO (j : Int))) (gA s0) (bs b) (bs b).heap := by
  obtain ⟨t, h1, h2⟩ := st_tab0 (ty := .byte) (F := dgO) h0 (by decide) (C := "java/lang/Integer") (nm := "DigitOnes") (d0 := "[B") (by decide +kernel) (by decide +kernel) (fl_in (by decide +kernel)) (fl_in (by decide +kernel)) sq_DO
  obtain ⟨-, -, -, -, hE, -⟩ := Z
  exact ⟨t, st_mv hE h1, st_mvT hE h2⟩
set_option maxRecDepth 100000 in
theorem sl_DT : (List.range 100).map (fun j : Nat => Cond.eq (.elem (.static "java/lang/Integer" "DigitTens" "[B") (.int (Int32.ofNat j))) (.int (zI (dgTen (j : Int))))) = ((flatC (Jvm.Cond.and given_1 narrow_1)).drop 409).take 100 := by (rw [fl_eq]; decide +kernel)
theorem sq_DT : ∀ j, j < 100 → (fun j : Nat => Cond.eq (.elem (.static "java/lang/Integer" "DigitTens" "[B") (.int (Int32.ofNat j))) (.int (zI (dgTen (j : Int))))) j ∈ flatC (Jvm.Cond.and given_1 narrow_1) := fun j hj => List.mem_of_mem_drop (i := 409) (List.mem_of_mem_take (i := 100) (by rw [← sl_DT]; exact List.mem_map.mpr ⟨j, List.mem_range.mpr hj, rfl⟩))
set_option maxRecDepth 100000 in
theorem st_DT (h0 : gS0 s0) (Z : gAm b l s0 G cc own nL rm) : ∃ t : Nat, va_Z "java/lang/Integer" "DigitTens" "[B" (.ref t) (gA s0) (bs b) (bs b).heap ∧ va_T .byte t 100 (fun j => iv (dgTen (j : Int))) (gA s0) (bs b) (bs b).heap := by
  obtain ⟨t, h1, h2⟩ := st_tab0 (ty := .byte) (F := dgTen) h0 (by decide) (C := "java/lang/Integer") (nm := "DigitTens") (d0 := "[B") (by decide +kernel) (by decide +kernel) (fl_in (by decide +kernel)) (fl_in (by decide +kernel)) sq_DT
  obtain ⟨-, -, -, -, hE, -⟩ := Z
  exact ⟨t, st_mv hE h1, st_mvT hE h2⟩
set_option maxRecDepth 100000 in
theorem st_CS (h0 : gS0 s0) (Z : gAm b l s0 G cc own nL rm) : va_Z "java/lang/String" "COMPACT_STRINGS" "Z" (iv 1) (gA s0) (bs b) (bs b).heap := by
  obtain ⟨a0, h1, h2⟩ := h0
  obtain ⟨-, -, -, -, hE, -⟩ := Z
  exact st_mv hE (va_Zof (args := a0) (h1 _ (by decide +kernel)) (h1 _ (by decide +kernel)) (va_eqt (flat_of_before _ h2 (Cond.eq (.static "java/lang/String" "COMPACT_STRINGS" "Z") (.int (zI 1))) (fl_in (by decide +kernel)))) (fun a h => Nat.not_le.mpr h))
end GS4
set_option maxRecDepth 100000 in
theorem str_e {s0 : State} (h0 : gS0 s0) : ∃ q v, sC s0 q v 0 (fun _ => 32) ∧ vk_R "KindcutterModel" 126 "" q s0 := str_of (bs := []) h0 (by decide) (by decide +kernel) (fl_in (by decide +kernel)) (fl_in (by decide +kernel)) (fl_in (by decide +kernel)) (fl_in (by decide +kernel)) (fun j hj => absurd hj (Nat.not_lt_zero _)) (fun j hj => absurd hj (Nat.not_lt_zero _))
set_option maxRecDepth 100000 in
theorem str_s {s0 : State} (h0 : gS0 s0) : ∃ q v, sC s0 q v 1 (fun _ => 32) ∧ vk_R "KindcutterModel" 128 " " q s0 := str_of (bs := [32]) h0 (by decide) (by decide +kernel) (fl_in (by decide +kernel)) (fl_in (by decide +kernel)) (fl_in (by decide +kernel)) (fl_in (by decide +kernel)) (fun j hj => by obtain rfl : j = 0 := (by omega); decide +kernel) (fun j hj => by obtain rfl : j = 0 := (by omega); decide +kernel)
theorem nb0 : narrow .byte (iv 0) = iv 0 := by
  rw [g_nb]
  exact congrArg iv (by decide +kernel)
theorem bShl0 {x : Int} (h : inr x) : bShl x 0 = x := by
  unfold bShl
  rw [show zI 0 &&& 31 = 0 by decide +kernel, Int32.shiftLeft_zero]
  exact zI_toInt h.1 h.2
theorem bShr0 {x : Int} (h : inr x) : bShr x 0 = x := by
  unfold bShr
  rw [show zI 0 &&& 31 = 0 by decide +kernel, Int32.shiftRight_zero]
  exact zI_toInt h.1 h.2
theorem eB0 {G : gK} {n : Nat} : eB G n (fun _ => 0) = eB G n (sgF (fun _ => 0)) := congrArg (eB G n) (funext fun _ => by show (0 : Int) = bB 0; decide +kernel)
/-- a StringBuilder of Latin-1 letters -/
def sbS (G : gK) (w : wd) (a v : Nat) (ml n : Int) (m : Nat) (C : Int → Int) : Prop := w a = some (eO 1 [rv v, iv 0, iv ml, iv n]) ∧ w v = some (eB G m (sgF C)) ∧ 0 ≤ n ∧ n ≤ m ∧ m ≤ 262
theorem sbS.d {G : gK} {w : wd} {a v : Nat} {ml n : Int} {m : Nat} {C : Int → Int} (h : sbS G w a v ml n m C) : a ≠ v := fun z => by
  have h1 := h.1
  rw [z, h.2.1] at h1
  cases h1
def sbP (a v : Nat) : Nat → Prop := fun x => x = a ∨ x = v
/-- it became another one -/
def sbW (G : gK) (w : wd) (a v : Nat) (n' : Int) (w' : wd) : Prop := ∃ v' ml' m' C', sbS G w' a v' ml' n' m' C' ∧ (v' = v ∨ w v' = none) ∧ fr (sbP a v) w w'
theorem sbF2 {a v v5 : Nat} {w w1 w2 : wd} (h1 : fr (fun x => x = a) w w1) (hv : v5 = v ∨ w v5 = none) (h2 : fr (fun x => x = v5) w1 w2) : fr (sbP a v) w w2 := fun q hq hn => by
  have ha : q ≠ a := fun z => hq (Or.inl z)
  have e1 := h1 q ha hn
  have h5 : q ≠ v5 := fun z => by
    rcases hv with h | h
    · exact hq (Or.inr (z.trans h))
    · exact hn (by rw [z]; exact h)
  exact (h2 q h5 (by rw [e1]; exact hn)).trans e1
theorem fr.tr2 {P : Nat → Prop} {w w1 w2 : wd} {q : Nat} (h1 : fr P w w1) (hn : w q = .none) (h2 : fr (fun x => x = q) w1 w2) : fr P w w2 := fun x hx h0 => by
  have e1 := h1 x hx h0
  exact (h2 x (fun z => h0 (by rw [z]; exact hn)) (by rw [e1]; exact h0)).trans e1
theorem sbS_fr {G : gK} {P : Nat → Prop} {w w1 : wd} {a v : Nat} {ml n : Int} {m : Nat} {C : Int → Int} (h : sbS G w a v ml n m C) (hf : fr P w w1) (ha : ¬ P a) (hv : ¬ P v) : sbS G w1 a v ml n m C := ⟨hf.at ha h.1, hf.at hv h.2.1, h.2.2⟩
def dgs (x : Int) : Int := if x < 10 then 1 else if x < 100 then 2 else 3
theorem dgs_in (x : Int) : 1 ≤ dgs x ∧ dgs x ≤ 3 := by
  unfold dgs
  split
  · omega
  · split <;> omega
theorem dgs_h {x : Int} (h0 : 100 ≤ x) (h9 : x ≤ 255) : dgs x = 2 + dgs (x / 100) := by
  unfold dgs
  rw [if_neg (by omega), if_neg (by omega), if_pos (by omega)]
  rfl
theorem bDiv100 {x : Int} (h0 : 0 ≤ x) (h9 : x ≤ 255) : bDiv (-x) 100 = -(x / 100) := by
  have h : ∀ k : Fin 256, bDiv (-((k.val : Nat) : Int)) 100 = -(((k.val : Nat) : Int) / 100) := by decide +kernel
  have e := h ⟨x.toNat, by omega⟩
  have e2 : ((x.toNat : Nat) : Int) = x := Int.toNat_of_nonneg h0
  rw [e2] at e
  exact e
end
