/-! rows for texts: inherited methods, super, String constants -/
section GS3
variable {b : gBt} {l : Launch} {s0 : State} {G : gK} {cc : ByteArray} {own : String} {nL : Nat} {rm : Room} {k n pc : Nat} {L : List (Nat × Value)} {st rest : List Value} {w : wd}
theorem x_callU (Z : gAm b l s0 G cc own nL rm) {x y : MethodName} {bytes : ByteArray} {maxL index na a ci N : Nat} {C owner : String} {T : u_T} {fs : List Value} {ret : Option FieldType} {rm' : Room} {As : List Value} {Rt : Option Value → wd → Prop} (hok : gOk y bytes maxL ret na) (hlk : Cond.methodLink own index x ∈ gT) (hsm : Cond.sameMethod x.cls owner x.name x.desc ∈ gT) (hi : Cond.instanceMethod y ∈ gT) (hs : Cond.selects C x y ∈ gT) (hyx : y = ⟨owner, x.name, x.desc⟩) (how : owner ≠ "java/lang/invoke/MethodHandle" ∧ owner ≠ "java/lang/invoke/VarHandle") (hc : vwCl[ci]? = some (C, T, N)) (d : decode cc pc = .ok (.invokevirtual index, 3)) (hM : gM l s0 G y [Cond.code y bytes maxL ret] rm' (rv a :: As) w Rt noX) (hw : w a = some (eO ci fs)) (hroom : rmIn rm' rm maxL k n) (hna : As.length = na) (hst : st = As.reverse ++ rv a :: rest) (hcat : (rest.map fun v => v.category).sum ≤ 8)
    (kk : ∀ (v : Option Value) (w' : wd), Rt v w' → gX b s0 G (k + rm'.cells) (n + rm'.slots) (pc + 3) L (v.toList ++ rest) w') : gX b s0 G k n pc L st w := by
  have h1 := Z.word hok.1
  have h2 := Z.word hok.2.1
  have h3 := Z.word hlk
  have h4 := Z.word hsm
  have h5 := Z.word hi
  have h6 := Z.word hs
  have hfx := g_fix Z
  obtain ⟨-, -, -, -, hE, -, -, hml, hR, hbl⟩ := Z
  subst hst
  rw [← hbl] at hM
  have hd : y.desc = x.desc := by rw [hyx]
  exact fun H locs ls hP hS hl => g_beh (va_runU hfx (g_met hM) ⟨⟨rfl, rfl, by rw [hR]; exact hroom.1, by rw [hR]; exact hroom.2.1, g_ws h1, List.mem_singleton.mpr rfl⟩, h1, h2, how, g_par (y := ⟨x.cls, x.name, x.desc⟩) (by show (parseMethodDescriptor x.desc).map _ = _; rw [← hd]; exact hok.2.2.2), h3, h4, (by rw [← hyx]; exact va_Decl.of h5 h1), h6, h5⟩ ⟨g_blind, g_rcv hE hP hw hc, g_pc hE hP hS⟩ rfl hna (hl.1.trans hml) rfl (lv_room hcat) d ⟨by rw [hR]; exact hroom.2.2.1, by rw [hR]; exact hroom.2.2.2⟩) hS hl kk
theorem x_callU2 (Z : gAm b l s0 G cc own nL rm) {x y : MethodName} {bytes : ByteArray} {maxL index na a ci N : Nat} {C owner : String} {T : u_T} {fs : List Value} {ret : Option FieldType} {rm' : Room} {As : List Value} {Rt : Option Value → wd → Prop} (hok : gOk y bytes maxL ret na) (hlk : Cond.methodLink own index x ∈ gT) (hsm : Cond.sameMethod x.cls owner x.name x.desc ∈ gT) (hi : Cond.instanceMethod y ∈ gT) (hs : Cond.selects C x y ∈ gT) (hd : y.desc = x.desc) {bytes9 : ByteArray} {maxL9 na9 : Nat} {ret9 : Option FieldType} (hok9 : gOk ⟨owner, x.name, x.desc⟩ bytes9 maxL9 ret9 na9) (hi9 : Cond.instanceMethod ⟨owner, x.name, x.desc⟩ ∈ gT) (how : owner ≠ "java/lang/invoke/MethodHandle" ∧ owner ≠ "java/lang/invoke/VarHandle") (hc : vwCl[ci]? = some (C, T, N)) (d : decode cc pc = .ok (.invokevirtual index, 3)) (hM : gM l s0 G y [Cond.code y bytes maxL ret] rm' (rv a :: As) w Rt noX) (hw : w a = some (eO ci fs)) (hroom : rmIn rm' rm maxL k n) (hna : As.length = na) (hst : st = As.reverse ++ rv a :: rest) (hcat : (rest.map fun v => v.category).sum ≤ 8)
    (kk : ∀ (v : Option Value) (w' : wd), Rt v w' → gX b s0 G (k + rm'.cells) (n + rm'.slots) (pc + 3) L (v.toList ++ rest) w') : gX b s0 G k n pc L st w := by
  have h1 := Z.word hok.1
  have h2 := Z.word hok.2.1
  have h3 := Z.word hlk
  have h4 := Z.word hsm
  have h5 := Z.word hi
  have h6 := Z.word hs
  have h7 := Z.word hok9.1
  have h8 := Z.word hi9
  have hfx := g_fix Z
  obtain ⟨-, -, -, -, hE, -, -, hml, hR, hbl⟩ := Z
  subst hst
  rw [← hbl] at hM
  exact fun H locs ls hP hS hl => g_beh (va_runU hfx (g_met hM) ⟨⟨rfl, rfl, by rw [hR]; exact hroom.1, by rw [hR]; exact hroom.2.1, g_ws h1, List.mem_singleton.mpr rfl⟩, h1, h2, how, g_par (y := ⟨x.cls, x.name, x.desc⟩) (by show (parseMethodDescriptor x.desc).map _ = _; rw [← hd]; exact hok.2.2.2), h3, h4, (va_Decl.of h8 h7), h6, h5⟩ ⟨g_blind, g_rcv hE hP hw hc, g_pc hE hP hS⟩ rfl hna (hl.1.trans hml) rfl (lv_room hcat) d ⟨by rw [hR]; exact hroom.2.2.1, by rw [hR]; exact hroom.2.2.2⟩) hS hl kk
theorem k_selP {C : String} {L0 y : MethodName} {s : State} {args : Array Value} (hy : y.cls ≠ "java/lang/invoke/MethodHandle" ∧ y.cls ≠ "java/lang/invoke/VarHandle") (hcl : L0.cls = y.cls) (hL : (Cond.selects C L0 L0).before args s = true) (hpriv : (Cond.privateMethod y).before args s = true) (hinst : (Cond.instanceMethod y).before args s = true) : (Cond.selects C y y).before args s = true := by
  obtain ⟨c, r2, m2, hc, -, hm2, -, kP, hkP, hkPi⟩ := Cond.selects_spec hL
  obtain ⟨mk, methM, hnamed, hmethM, -, -⟩ := Cond.instanceMethod_spec hinst
  have hfound : s.methodFound? y.cls y.name y.desc = some mk := State.methodFound?_of_named hnamed hy
  have e1 := findClass_of_methodNamed hnamed
  have e2 := findClass_of_methodNamed hm2
  rw [hcl] at e2
  have hcls : mk.cls = m2.cls := Option.some.inj (e1.symm.trans e2)
  have hsel : selectMethod {} s.vm c mk = .method mk := selectMethod_private hmethM (Cond.privateMethod_at hpriv mk methM hnamed hmethM)
  simp only [Cond.before, Cond.holds, Cond.value, hc, hfound, hnamed, hsel, hcls, hkP]
  simp
  exact hkPi
theorem x_callP (Z : gAm b l s0 G cc own nL rm) {y L0 : MethodName} {bytes : ByteArray} {maxL index na a ci N : Nat} {C : String} {T : u_T} {fs : List Value} {ret : Option FieldType} {rm' : Room} {As : List Value} {Rt : Option Value → wd → Prop} (hok : gOk y bytes maxL ret na) (hlk : Cond.methodLink own index y ∈ gT) (hsm : Cond.sameMethod y.cls y.cls y.name y.desc ∈ gT) (hi : Cond.instanceMethod y ∈ gT) (hpr : Cond.privateMethod y ∈ lw_tbl) (hs : Cond.selects C L0 L0 ∈ gT) (hcl : L0.cls = y.cls) (how : y.cls ≠ "java/lang/invoke/MethodHandle" ∧ y.cls ≠ "java/lang/invoke/VarHandle") (hc : vwCl[ci]? = some (C, T, N)) (d : decode cc pc = .ok (.invokevirtual index, 3)) (hM : gM l s0 G y [Cond.code y bytes maxL ret] rm' (rv a :: As) w Rt noX) (hw : w a = some (eO ci fs)) (hroom : rmIn rm' rm maxL k n) (hna : As.length = na) (hst : st = As.reverse ++ rv a :: rest) (hcat : (rest.map fun v => v.category).sum ≤ 8)
    (kk : ∀ (v : Option Value) (w' : wd), Rt v w' → gX b s0 G (k + rm'.cells) (n + rm'.slots) (pc + 3) L (v.toList ++ rest) w') : gX b s0 G k n pc L st w := by
  have h1 := Z.word hok.1
  have h2 := Z.word hok.2.1
  have h3 := Z.word hlk
  have h4 := Z.word hsm
  have h5 := Z.word hi
  have hfx := g_fix Z
  obtain ⟨-, -, -, h0, hE, -, -, hml, hR, hbl⟩ := Z
  obtain ⟨a0, g1, -⟩ := h0
  have h6 : (Cond.selects C y y).before (ba b) (bs b) = true := word_at hE.1 (good_of_word rfl) (k_selP how hcl (g1 _ (List.mem_filter.mp hs).1) (g1 _ hpr) (g1 _ (List.mem_filter.mp hi).1))
  subst hst
  rw [← hbl] at hM
  exact fun H locs ls hP hS hl => g_beh (va_runU hfx (g_met hM) ⟨⟨rfl, rfl, by rw [hR]; exact hroom.1, by rw [hR]; exact hroom.2.1, g_ws h1, List.mem_singleton.mpr rfl⟩, h1, h2, how, g_par hok.2.2.2, h3, h4, va_Decl.of h5 h1, h6, h5⟩ ⟨g_blind, g_rcv hE hP hw hc, g_pc hE hP hS⟩ rfl hna (hl.1.trans hml) rfl (lv_room hcat) d ⟨by rw [hR]; exact hroom.2.2.1, by rw [hR]; exact hroom.2.2.2⟩) hS hl kk
theorem x_callSU (Z : gAm b l s0 G cc own nL rm) {y : MethodName} {bytes : ByteArray} {maxL index na a ci N : Nat} {C : String} {T : u_T} {fs : List Value} {ret : Option FieldType} {rm' : Room} {As : List Value} {Rt : Option Value → wd → Prop} (hok : gOk y bytes maxL ret na) (hlk : Cond.methodLink own index y ∈ gT) (hsm : Cond.sameMethod y.cls y.cls y.name y.desc ∈ gT) (hsu : Cond.superclass own y.cls ∈ gT) (hi : Cond.instanceMethod y ∈ gT) (hno : y.name ≠ "<init>") (hc : vwCl[ci]? = some (C, T, N)) (d : decode cc pc = .ok (.invokespecial index, 3)) (hM : gM l s0 G y [Cond.code y bytes maxL ret] rm' (rv a :: As) w Rt noX) (hw : w a = some (eO ci fs)) (hroom : rmIn rm' rm maxL k n) (hna : As.length = na) (hst : st = As.reverse ++ rv a :: rest) (hcat : (rest.map fun v => v.category).sum ≤ 8)
    (kk : ∀ (v : Option Value) (w' : wd), Rt v w' → gX b s0 G (k + rm'.cells) (n + rm'.slots) (pc + 3) L (v.toList ++ rest) w') : gX b s0 G k n pc L st w := by
  have h1 := Z.word hok.1
  have h2 := Z.word hok.2.1
  have h3 := Z.word hlk
  have h4 := Z.word hsm
  have h5 := Z.word hi
  have h6 := Z.word hsu
  have hfx := g_fix Z
  obtain ⟨-, -, -, -, hE, -, -, hml, hR, hbl⟩ := Z
  subst hst
  rw [← hbl] at hM
  exact fun H locs ls hP hS hl => g_beh (va_runSU (hE.2.2.2.1 ci _ hc).2 hfx (g_met hM) ⟨⟨rfl, rfl, by rw [hR]; exact hroom.1, by rw [hR]; exact hroom.2.1, g_ws h1, List.mem_singleton.mpr rfl⟩, h3, h4, h6, h5, h2, h1, hno, g_par hok.2.2.2⟩ ⟨g_blind, g_rcv hE hP hw hc, g_pc hE hP hS⟩ rfl hna (hl.1.trans hml) rfl (lv_room hcat) d ⟨by rw [hR]; exact hroom.2.2.1, by rw [hR]; exact hroom.2.2.2⟩) hS hl kk
/-- a String constant: its object, its bytes -/
def sC (s0 : State) (q v len : Nat) (f : Int → Int) : Prop := va_O "java/lang/String" q (gA s0) s0 s0.heap ∧ va_OF "java/lang/String" "coder" "B" (iv 0) q (gA s0) s0 s0.heap ∧ va_OF "java/lang/String" "value" "[B" (.ref v) q (gA s0) s0 s0.heap ∧ va_T .byte v len (fun j => iv (sgF f (j : Int))) (gA s0) s0 s0.heap
theorem x_ldcS (Z : gAm b l s0 G cc own nL rm) {tx : String} {idx q : Nat} (hR : vk_R own idx tx q s0) (d : decode cc pc = .ok (.ldc idx, 2)) (kk : gX b s0 G k n (pc + 2) L (rv q :: st) w) : gX b s0 G k n pc L st w := by
  obtain ⟨hx, hb, ho, -, hE, -⟩ := Z
  have h := vk_R.warm hE.1 hR
  exact fun H locs ls hP hS hl => va_ldcS hx hb ho h d (kk H locs ls hP hS hl)
theorem x_getfC (Z : gAm b l s0 G cc own nL rm) {o nm fd ref : String} {idx q : Nat} {v : Value} (hF : va_OF o nm fd v q (gA s0) s0 s0.heap) (hlk : Cond.fieldLink own idx ref nm fd ∈ gT) (href : o = ref) (d : decode cc pc = .ok (.getfield idx, 3)) (kk : gX b s0 G k n (pc + 3) L (v :: st) w) : gX b s0 G k n pc L (rv q :: st) w := by
  have hlk' := Z.word hlk
  obtain ⟨hx, hb, ho, -, hE, -⟩ := Z
  subst href
  exact fun H locs ls hP hS hl => vk_getf hx hb (va_OF.moved hE.1.alike (va_OF.kept hF (fun a ha _ => hE.2.2.1 a ha))) hS ho hlk' (fun _ h => h) d (kk H locs ls hP hS hl)
theorem x_alenT (Z : gAm b l s0 G cc own nL rm) {ty : FieldType} {t N : Nat} {f : Nat → Value} (hT : va_T ty t N f (gA s0) s0 s0.heap) (d : decode cc pc = .ok (.arraylength, 1)) (kk : gX b s0 G k n (pc + 1) L (iv (N : Int) :: st) w) : gX b s0 G k n pc L (rv t :: st) w := by
  obtain ⟨hx, hb, ho, -, hE, -⟩ := Z
  exact fun H locs ls hP hS hl => va_tlen hx hb (st_mvT hE hT) hS (v := zI (N : Int)) (zI_nat N).symm d (kk H locs ls hP hS hl)
theorem x_acopyT (Z : gAm b l s0 G cc own nL rm) {idx : Nat} (q1 : Cond.methodLink own idx arraycopyName ∈ gT) (q2 : Cond.native arraycopyName ∈ gT) (q3 : Cond.static arraycopyName ∈ gT) (q4 : Cond.initialized "java/lang/System" ∈ gT) (d : decode cc pc = .ok (.invokestatic idx, 3)) {t da n0 n1 : Nat} {C D : Int → Int} {sp dp m : Int} (hT : va_T .byte t n0 (fun j => iv (sgF C (j : Int))) (gA s0) s0 s0.heap) (hd : w da = some (eB G n1 (sgF D))) (h1 : 0 ≤ sp) (h2 : 0 ≤ dp) (h3 : 0 ≤ m) (h4 : sp + m ≤ n0) (h5 : dp + m ≤ n1) (hN0 : n0 < 2147483648) (hN1 : n1 < 2147483648) (hfr : 1 ≤ rm.frames) (hlo : (st.map fun v => v.category).sum + 18 ≤ rm.locals)
    (kk : gX b s0 G k n (pc + 3) L st (ws1 w da (eB G n1 (sgF (cpF C D sp dp m))))) : gX b s0 G k n pc L (iv m :: iv dp :: rv da :: iv sp :: rv t :: st) w := by
  have w1 := Z.word q1
  have w2 := Z.word q2
  have w3 := Z.word q3
  have w4 := Z.word q4
  obtain ⟨hx, hb, ho, -, hE, -, -, hml, hR, -⟩ := Z
  have y1 : (zI sp).toNatClampNeg = sp.toNat := by show (zI sp).toInt.toNat = _; rw [zI_toInt (by omega) (by omega)]
  have y2 : (zI dp).toNatClampNeg = dp.toNat := by show (zI dp).toInt.toNat = _; rw [zI_toInt (by omega) (by omega)]
  have y3 : (zI m).toNatClampNeg = m.toNat := by show (zI m).toInt.toNat = _; rw [zI_toInt (by omega) (by omega)]
  intro H locs ls hP hS hl
  obtain ⟨scr, hs1, hs2, hs3, hs4, -, hs5, hs7⟩ := st_mvT hE hT
  have hc0 : H[t]? = some scr := by rw [hS.2.1 t (Array.getElem?_eq_some_iff.mp hs1).1 hs7]; exact hs1
  refine g_copyB hx hb hl.1.symm ho w1 w2 w3 w4 (f := fun j : Nat => zI (sgF C (j : Int))) (g := fun j : Nat => zI (sgF D (j : Int))) hs2 (hE.2.2.2.2 0 _ rfl).1 hc0 hs3 hs4 hs5 (g_arr hP hd) (zI_nn h1 (by omega)) (zI_nn h2 (by omega)) (zI_nn h3 (by omega)) (by omega) (by omega) (fun i _ => fits_byte _) (by rw [hR]; exact hfr) (by rw [hR, nfw7]; exact hlo) d (fun H1 locs1 e1 z oq hl1 => ?_)
  rw [cp_eq h1 h2 h3 (by omega) (by omega) (by omega)] at e1
  have hbase := (hP _ _ hd).1
  exact kk H1 locs1 ls (hP.set hd e1 oq) ⟨by rw [z]; exact hS.1, fun q g1 g2 => (oq q (fun e => g2 (by rw [e]; exact hbase))).trans (hS.2.1 q g1 g2), fun q hq => by
    rcases hl1 q hq with h | h
    · exact hS.2.2 q h
    · rw [h]
      exact hbase⟩ hl
theorem x_callVC (Z : gAm b l s0 G cc own nL rm) {y : MethodName} {bytes : ByteArray} {maxL index na q v len : Nat} {f : Int → Int} {ret : Option FieldType} {rm' : Room} {As : List Value} {Rt : Option Value → wd → Prop} (hok : gOk y bytes maxL ret na) (hlk : Cond.methodLink own index y ∈ gT) (hi : Cond.instanceMethod y ∈ gT) (hs : Cond.selects "java/lang/String" y y ∈ gT) (d : decode cc pc = .ok (.invokevirtual index, 3)) (hM : gM l s0 G y [Cond.code y bytes maxL ret] rm' (rv q :: As) w Rt noX) (hq : sC s0 q v len f) (hroom : rmIn rm' rm maxL k n) (hna : As.length = na) (hst : st = As.reverse ++ rv q :: rest) (hcat : (rest.map fun v => v.category).sum ≤ 8)
    (kk : ∀ (v : Option Value) (w' : wd), Rt v w' → gX b s0 G (k + rm'.cells) (n + rm'.slots) (pc + 3) L (v.toList ++ rest) w') : gX b s0 G k n pc L st w := by
  have hcb := g_callB Z hok hlk hroom
  have h1 := Z.word hi
  have h2 := Z.word hs
  have hfx := g_fix Z
  obtain ⟨-, -, -, -, hE, -, -, hml, hR, hbl⟩ := Z
  subst hst
  rw [← hbl] at hM
  refine fun H locs ls hP hS hl => ?_
  obtain ⟨cell, r1, r2, r3, -⟩ := (va_O.moved hE.1.alike (va_O.kept hq.1 (fun a ha _ => hE.2.2.1 a ha))).kept hS.2.1
  exact g_beh (va_runV hfx (g_met hM) ⟨hcb, h1, h2⟩ ⟨g_blind, ⟨cell, r1, r2, r3⟩, g_pc hE hP hS⟩ rfl hna (hl.1.trans hml) rfl (lv_room hcat) d ⟨by rw [hR]; exact hroom.2.2.1, by rw [hR]; exact hroom.2.2.2⟩) hS hl kk
end GS3
theorem str_of {s0 : State} {own tx : String} {k len : Nat} {bs : List Int32} {f : Int → Int} (h0 : gS0 s0) (hln : len < 2147483648) (h1 : Cond.stringRef own k tx ∈ lw_tbl) (h2 : Cond.exactly (.string own k) "java/lang/String" ∈ flatC (Jvm.Cond.and given_1 narrow_1)) (h3 : Cond.eq (.field (.string own k) "java/lang/String" "coder" "B") (.int 0) ∈ flatC (Jvm.Cond.and given_1 narrow_1)) (h4 : Cond.arrayOf (.field (.string own k) "java/lang/String" "value" "[B") .byte ∈ flatC (Jvm.Cond.and given_1 narrow_1)) (h5 : Cond.eq (.length (.field (.string own k) "java/lang/String" "value" "[B")) (.int (Int32.ofNat len)) ∈ flatC (Jvm.Cond.and given_1 narrow_1)) (h6 : ∀ j : Nat, j < len → Cond.eq (.elem (.field (.string own k) "java/lang/String" "value" "[B") (.int (Int32.ofNat j))) (.int (bs.getD j 0)) ∈ flatC (Jvm.Cond.and given_1 narrow_1)) (h7 : ∀ j : Nat, j < len → bs.getD j 0 = zI (sgF f (j : Int))) : ∃ q v, sC s0 q v len f ∧ vk_R own k tx q s0 := by
  obtain ⟨a0, g1, g2⟩ := h0
  have hf := flat_of_before _ g2
  obtain ⟨adK, adV, ⟨k1, k2⟩, k3⟩ := vk_Sof (args := a0) (s := s0) (N := 1) (tm := fun _ => .string own k) (len := [len]) (byt := [bs]) (A := gA s0) (fun i hi => by obtain rfl : i = 0 := (by omega); exact hln) (fun i _ => hf _ h2) (fun i _ => hf _ h3) (fun i _ => hf _ h4) (fun i hi => by obtain rfl : i = 0 := (by omega); exact hf _ h5) (fun i hi j hj => by obtain rfl : i = 0 := (by omega); exact hf _ (h6 j hj)) (fun i j hi hj hij => absurd (by omega) hij) (fun a h => Nat.not_le.mpr h)
  obtain ⟨r1, r2, r3, r4⟩ := k1 0 (by omega)
  refine ⟨adK 0, adV 0, ⟨r1, by rw [show iv 0 = Value.int 0 from congrArg Value.int zI_0]; exact r2, r3, ?_⟩, vk_R.of (A := a0) (g1 _ h1) ?_⟩
  · obtain ⟨c, x1, x2, x3, x4, x5, x6, x7⟩ := r4
    exact ⟨c, x1, x2, x3, x4, x5, fun j hj => (x6 j hj).trans (congrArg (fun z => some (Value.int z)) (h7 j hj)), x7⟩
  · have h := k3 0 (by omega)
    exact (Term.string_eval_of_vm (args := #[]) (args' := a0) (U := s0) (V := s0) rfl).trans h
