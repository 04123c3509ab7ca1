/-! texts: statics, digits, a StringBuilder -/
section GS4
variable {b : gBt} {l : Launch} {s0 : State} {G : gK} {cc : ByteArray} {own : String} {nL : Nat} {rm : Room} {k n pc : Nat} {L : List (Nat × Value)} {st rest : List Value} {w : wd}
theorem x_aretA (Z : gAm b l s0 G cc own nL rm) {t : FieldType} {nm : String} {tb : List ExceptionTableEntry} {Rt : Option Value → wd → Prop} {Xt : String → wd → Prop} (E : gQm b s0 G (some (.array t)) rm nm tb Rt Xt) {x : Nat} (hR : Rt (some (rv x)) w) (d : decode cc pc = .ok (.areturn, 1)) (hk : k ≤ rm.cells) (hn : n ≤ rm.slots) : gX b s0 G k n pc L [rv x] w := by
  obtain ⟨hx, hb, ho, -, hE, hlk, -⟩ := Z
  obtain ⟨hr, -, hq, -⟩ := E
  intro H locs ls hP hS hl
  rw [hq]
  exact W.widen hk hn (vx_ret (W.aret hx hb hr (Or.inr ⟨t, rfl⟩) (Or.inr ⟨x, rfl⟩) (fun t ht hW => ⟨⟨_, w, rfl, hR, by rw [ht]; exact hP⟩, hS.F ht⟩) hS.2.2 d hlk))
theorem x_bret (Z : gAm b l s0 G cc own nL rm) {nm : String} {tb : List ExceptionTableEntry} {Rt : Option Value → wd → Prop} {Xt : String → wd → Prop} (E : gQm b s0 G (some .byte) rm nm tb Rt Xt) {x : Int} (hx0 : narrow .byte (iv x) = iv x) (hR : Rt (some (iv x)) w) (d : decode cc pc = .ok (.ireturn, 1)) (hk : k ≤ rm.cells) (hn : n ≤ rm.slots) : gX b s0 G k n pc L [iv x] w := by
  obtain ⟨hx, hb, ho, -, hE, hlk, -⟩ := Z
  obtain ⟨hr, -, hq, -⟩ := E
  intro H locs ls hP hS hl
  rw [hq]
  exact W.widen hk hn (vx_ret (W.zret hx hb hr hx0 (fun t ht hW => ⟨⟨_, w, rfl, hR, by rw [ht]; exact hP⟩, hS.F ht⟩) hS.2.2 d hlk))
def dgO (j : Int) : Int := 48 + j % 10
def dgTen (j : Int) : Int := 48 + j / 10
set_option maxRecDepth 100000 in
theorem sl_DO : (List.range 100).map (fun j : Nat => Cond.eq (.elem (.static "java/lang/Integer" "DigitOnes" "[B") (.int (Int32.ofNat j))) (.int (zI (dgO (j : Int))))) = ((flatC (Jvm.Cond.and given_1 narrow_1)).drop 306).take 100 := by decide +kernel
theorem sq_DO : ∀ j, j < 100 → (fun j : Nat => Cond.eq (.elem (.static "java/lang/Integer" "DigitOnes" "[B") (.int (Int32.ofNat j))) (.int (zI (dgO (j : Int))))) j ∈ flatC (Jvm.Cond.and given_1 narrow_1) := fun j hj => List.mem_of_mem_drop (i := 306) (List.mem_of_mem_take (i := 100) (by rw [← sl_DO]; exact List.mem_map.mpr ⟨j, List.mem_range.mpr hj, rfl⟩))
set_option maxRecDepth 100000 in
theorem st_DO (h0 : gS0 s0) (Z : gAm b l s0 G cc own nL rm) : ∃ t : Nat, va_Z "java/lang/Integer" "DigitOnes" "[B" (.ref t) (gA s0) (bs b) (bs b).heap ∧ va_T .byte t 100 (fun j => iv (dgO (j : Int))) (gA s0) (bs b) (bs b).heap := by
  obtain ⟨t, h1, h2⟩ := st_tab0 (ty := .byte) (F := dgO) h0 (by decide) (C := "java/lang/Integer") (nm := "DigitOnes") (d0 := "[B") (by decide +kernel) (by decide +kernel) (by decide +kernel) (by decide +kernel) sq_DO
  obtain ⟨-, -, -, -, hE, -⟩ := Z
  exact ⟨t, st_mv hE h1, st_mvT hE h2⟩
set_option maxRecDepth 100000 in
theorem sl_DT : (List.range 100).map (fun j : Nat => Cond.eq (.elem (.static "java/lang/Integer" "DigitTens" "[B") (.int (Int32.ofNat j))) (.int (zI (dgTen (j : Int))))) = ((flatC (Jvm.Cond.and given_1 narrow_1)).drop 409).take 100 := by decide +kernel
theorem sq_DT : ∀ j, j < 100 → (fun j : Nat => Cond.eq (.elem (.static "java/lang/Integer" "DigitTens" "[B") (.int (Int32.ofNat j))) (.int (zI (dgTen (j : Int))))) j ∈ flatC (Jvm.Cond.and given_1 narrow_1) := fun j hj => List.mem_of_mem_drop (i := 409) (List.mem_of_mem_take (i := 100) (by rw [← sl_DT]; exact List.mem_map.mpr ⟨j, List.mem_range.mpr hj, rfl⟩))
set_option maxRecDepth 100000 in
theorem st_DT (h0 : gS0 s0) (Z : gAm b l s0 G cc own nL rm) : ∃ t : Nat, va_Z "java/lang/Integer" "DigitTens" "[B" (.ref t) (gA s0) (bs b) (bs b).heap ∧ va_T .byte t 100 (fun j => iv (dgTen (j : Int))) (gA s0) (bs b) (bs b).heap := by
  obtain ⟨t, h1, h2⟩ := st_tab0 (ty := .byte) (F := dgTen) h0 (by decide) (C := "java/lang/Integer") (nm := "DigitTens") (d0 := "[B") (by decide +kernel) (by decide +kernel) (by decide +kernel) (by decide +kernel) sq_DT
  obtain ⟨-, -, -, -, hE, -⟩ := Z
  exact ⟨t, st_mv hE h1, st_mvT hE h2⟩
set_option maxRecDepth 100000 in
theorem st_CS (h0 : gS0 s0) (Z : gAm b l s0 G cc own nL rm) : va_Z "java/lang/String" "COMPACT_STRINGS" "Z" (iv 1) (gA s0) (bs b) (bs b).heap := by
  obtain ⟨a0, h1, h2⟩ := h0
  obtain ⟨-, -, -, -, hE, -⟩ := Z
  exact st_mv hE (va_Zof (args := a0) (h1 _ (by decide +kernel)) (h1 _ (by decide +kernel)) (va_eqt (flat_of_before _ h2 (Cond.eq (.static "java/lang/String" "COMPACT_STRINGS" "Z") (.int (zI 1))) (by decide +kernel))) (fun a h => Nat.not_le.mpr h))
end GS4
set_option maxRecDepth 100000 in
theorem str_e {s0 : State} (h0 : gS0 s0) : ∃ q v, sC s0 q v 0 (fun _ => 32) ∧ vk_R "KindcutterModel" 126 "" q s0 := str_of (bs := []) h0 (by decide) (by decide +kernel) (by decide +kernel) (by decide +kernel) (by decide +kernel) (by decide +kernel) (fun j hj => absurd hj (Nat.not_lt_zero _)) (fun j hj => absurd hj (Nat.not_lt_zero _))
set_option maxRecDepth 100000 in
theorem str_s {s0 : State} (h0 : gS0 s0) : ∃ q v, sC s0 q v 1 (fun _ => 32) ∧ vk_R "KindcutterModel" 128 " " q s0 := str_of (bs := [32]) h0 (by decide) (by decide +kernel) (by decide +kernel) (by decide +kernel) (by decide +kernel) (by decide +kernel) (fun j hj => by obtain rfl : j = 0 := (by omega); decide +kernel) (fun j hj => by obtain rfl : j = 0 := (by omega); decide +kernel)
theorem nb0 : narrow .byte (iv 0) = iv 0 := by
  rw [g_nb]
  exact congrArg iv (by decide +kernel)
theorem bShl0 {x : Int} (h : inr x) : bShl x 0 = x := by
  unfold bShl
  rw [show zI 0 &&& 31 = 0 by decide +kernel, Int32.shiftLeft_zero]
  exact zI_toInt h.1 h.2
theorem bShr0 {x : Int} (h : inr x) : bShr x 0 = x := by
  unfold bShr
  rw [show zI 0 &&& 31 = 0 by decide +kernel, Int32.shiftRight_zero]
  exact zI_toInt h.1 h.2
theorem eB0 {G : gK} {n : Nat} : eB G n (fun _ => 0) = eB G n (sgF (fun _ => 0)) := congrArg (eB G n) (funext fun _ => by show (0 : Int) = bB 0; decide +kernel)
/-- a StringBuilder of Latin-1 letters -/
def sbS (G : gK) (w : wd) (a v : Nat) (ml n : Int) (m : Nat) (C : Int → Int) : Prop := w a = some (eO 1 [rv v, iv 0, iv ml, iv n]) ∧ w v = some (eB G m (sgF C)) ∧ 0 ≤ n ∧ n ≤ m ∧ m ≤ 262
theorem sbS.d {G : gK} {w : wd} {a v : Nat} {ml n : Int} {m : Nat} {C : Int → Int} (h : sbS G w a v ml n m C) : a ≠ v := fun z => by
  have h1 := h.1
  rw [z, h.2.1] at h1
  cases h1
def sbP (a v : Nat) : Nat → Prop := fun x => x = a ∨ x = v
/-- it became another one -/
def sbW (G : gK) (w : wd) (a v : Nat) (n' : Int) (w' : wd) : Prop := ∃ v' ml' m' C', sbS G w' a v' ml' n' m' C' ∧ (v' = v ∨ w v' = none) ∧ fr (sbP a v) w w'
theorem sbF2 {a v v5 : Nat} {w w1 w2 : wd} (h1 : fr (fun x => x = a) w w1) (hv : v5 = v ∨ w v5 = none) (h2 : fr (fun x => x = v5) w1 w2) : fr (sbP a v) w w2 := fun q hq hn => by
  have ha : q ≠ a := fun z => hq (Or.inl z)
  have e1 := h1 q ha hn
  have h5 : q ≠ v5 := fun z => by
    rcases hv with h | h
    · exact hq (Or.inr (z.trans h))
    · exact hn (by rw [z]; exact h)
  exact (h2 q h5 (by rw [e1]; exact hn)).trans e1
theorem fr.tr2 {P : Nat → Prop} {w w1 w2 : wd} {q : Nat} (h1 : fr P w w1) (hn : w q = .none) (h2 : fr (fun x => x = q) w1 w2) : fr P w w2 := fun x hx h0 => by
  have e1 := h1 x hx h0
  exact (h2 x (fun z => h0 (by rw [z]; exact hn)) (by rw [e1]; exact h0)).trans e1
theorem sbS_fr {G : gK} {P : Nat → Prop} {w w1 : wd} {a v : Nat} {ml n : Int} {m : Nat} {C : Int → Int} (h : sbS G w a v ml n m C) (hf : fr P w w1) (ha : ¬ P a) (hv : ¬ P v) : sbS G w1 a v ml n m C := ⟨hf.at ha h.1, hf.at hv h.2.1, h.2.2⟩
def dgs (x : Int) : Int := if x < 10 then 1 else if x < 100 then 2 else 3
theorem dgs_in (x : Int) : 1 ≤ dgs x ∧ dgs x ≤ 3 := by
  unfold dgs
  split
  · omega
  · split <;> omega
theorem dgs_h {x : Int} (h0 : 100 ≤ x) (h9 : x ≤ 255) : dgs x = 2 + dgs (x / 100) := by
  unfold dgs
  rw [if_neg (by omega), if_neg (by omega), if_pos (by omega)]
  rfl
theorem bDiv100 {x : Int} (h0 : 0 ≤ x) (h9 : x ≤ 255) : bDiv (-x) 100 = -(x / 100) := by
  have h : ∀ k : Fin 256, bDiv (-((k.val : Nat) : Int)) 100 = -(((k.val : Nat) : Int) / 100) := by decide +kernel
  have e := h ⟨x.toNat, by omega⟩
  have e2 : ((x.toNat : Nat) : Int) = x := Int.toNat_of_nonneg h0
  rw [e2] at e
  exact e
