/-! the law: its start, its script, its state -/
theorem g_arr0 {s : State} {a0 : Array Value} {ty : FieldType} (h : (Cond.arrayClass ty).before a0 s = true) : ∃ c : ClassId, ArrOfT s c ty ∧ s.vm.findClass ("[" ++ ty.toString) = some c := by
  obtain ⟨c, k, comp, h1, h2, h3⟩ := Cond.arrayClass_spec h
  exact ⟨c, fun N z => ⟨(fun k h => by cases h), k, h2, comp, h3⟩, h1⟩
theorem g_start {s : State} {a0 : Array Value} (hts : ∀ w ∈ lw_tbl, w.before a0 s = true) : ∃ G : gK, gEnv s G s := by
  obtain ⟨c0, i0, k0⟩ := u_known (C := RJ0) (T := TJ0) (N := 4) (n := 4) hts (fun q hq => (List.mem_filter.mp (inJ0g q hq)).1) (hts _ (by decide +kernel))
  obtain ⟨c1, i1, k1⟩ := u_known (C := RJ4) (T := TJ4) (N := 4) (n := 4) hts (fun q hq => (List.mem_filter.mp (inJ4g q hq)).1) (hts _ (by decide +kernel))
  obtain ⟨c2, i2, k2⟩ := u_known (C := RX1) (T := TX1) (N := 3) (n := 3) hts (fun q hq => (List.mem_filter.mp (inX1g q hq)).1) (hts _ (by decide +kernel))
  obtain ⟨c3, i3, k3⟩ := u_known (C := RX2) (T := TX2) (N := 4) (n := 4) hts (fun q hq => (List.mem_filter.mp (inX2g q hq)).1) (hts _ (by decide +kernel))
  obtain ⟨c4, i4, k4⟩ := u_known (C := RX3) (T := TX3) (N := 2) (n := 2) hts (fun q hq => (List.mem_filter.mp (inX3g q hq)).1) (hts _ (by decide +kernel))
  obtain ⟨c5, i5, k5⟩ := u_known (C := RX4) (T := TX4) (N := 7) (n := 7) hts (fun q hq => (List.mem_filter.mp (inX4g q hq)).1) (hts _ (by decide +kernel))
  obtain ⟨cB, b1, b2⟩ := g_arr0 (hts (Cond.arrayClass .byte) (by decide +kernel))
  obtain ⟨cI, j1, j2⟩ := g_arr0 (hts (Cond.arrayClass .int) (by decide +kernel))
  obtain ⟨cZ, z1, z2⟩ := g_arr0 (hts (Cond.arrayClass .boolean) (by decide +kernel))
  obtain ⟨tc, cT, tk, t1, -, t3, t4, t5⟩ := Cond.arrayOver_spec (hts (Cond.arrayOver (.object RX1)) (by decide +kernel))
  obtain ⟨ac, cA, ak, y1, -, y3, y4, y5⟩ := arrayOverA_spec (hts (Cond.arrayOver (.array .int)) (by decide +kernel))
  refine ⟨((fun k => match k with | 0 => c0 | 1 => c1 | 2 => c2 | 3 => c3 | 4 => c4 | _ => c5, fun k => match k with | 0 => i0 | 1 => i1 | 2 => i2 | 3 => i3 | 4 => i4 | _ => i5), cB, cI, cZ, cT, cA), State.WarmedH.refl s, Nat.le_refl _, fun _ _ => rfl, ?_, ?_⟩
  · intro c q hq
    match c, hq with
    | 0, hq => cases hq; exact k0
    | 1, hq => cases hq; exact k1
    | 2, hq => cases hq; exact k2
    | 3, hq => cases hq; exact k3
    | 4, hq => cases hq; exact k4
    | 5, hq => cases hq; exact k5
    | c + 6, hq => simp [vwCl] at hq
  · intro k q hk
    match k, hk with
    | 0, hk => cases hk; exact ⟨b1, b2⟩
    | 1, hk => cases hk; exact ⟨j1, j2⟩
    | 2, hk => cases hk; exact ⟨z1, z2⟩
    | 3, hk => cases hk; exact ⟨fun N z => ⟨(fun k h => by cases h), tk, t3, tc, t4⟩, tk, tc, t3, t4, t1, t5⟩
    | 4, hk => cases hk; exact ⟨fun N z => ⟨(fun k h => by cases h), ak, y3, ac, y4⟩, y5⟩
    | k + 5, hk => simp at hk
/-- the law's script -/
def lX (b : gBt) (s0 : State) (sa Ls : Nat) (xs : Nat → Int32) : Prop := va_X sa Ls xs (bs b) (bs b).heap ∧ sa < (bs b).heap.size ∧ ¬ gA s0 sa ∧ Ls ≤ 256
/-- an int of the script -/
def sx (xs : Nat → Int32) (i : Int) : Int := (xs (zI i).toNatClampNeg).toInt
section GSC
variable {b : gBt} {l : Launch} {s0 : State} {G : gK} {cc : ByteArray} {own : String} {nL : Nat} {rm : Room} {k n pc : Nat} {L : List (Nat × Value)} {st rest : List Value} {w : wd}
theorem x_sld (Z : gAm b l s0 G cc own nL rm) {sa Ls : Nat} {xs : Nat → Int32} (hX : lX b s0 sa Ls xs) {i : Int} (h1 : 0 ≤ i) (h2 : i < Ls) (d : decode cc pc = .ok (.iaload, 1)) (kk : inr (sx xs i) → gX b s0 G k n (pc + 1) L (iv (sx xs i) :: st) w) : gX b s0 G k n pc L (iv i :: rv sa :: st) w := by
  obtain ⟨hx, hb, -⟩ := Z
  obtain ⟨x1, x2, x3, x4⟩ := hX
  intro H locs ls hP hS hl
  have e : iv (sx xs i) = .int (xs (zI i).toNatClampNeg) := congrArg Value.int (zI_of _)
  have hr : inr (sx xs i) := ⟨Int32.le_toInt _, by have := Int32.toInt_lt (xs (zI i).toNatClampNeg); unfold sx; omega⟩
  exact va_sld hx hb x1 x2 x3 hS (zI_ix h1 h2 (by omega)).1 d (by rw [← e]; exact kk hr H locs ls hP hS hl)
theorem x_slen (Z : gAm b l s0 G cc own nL rm) {sa Ls : Nat} {xs : Nat → Int32} (hX : lX b s0 sa Ls xs) (d : decode cc pc = .ok (.arraylength, 1)) (kk : gX b s0 G k n (pc + 1) L (iv (Ls : Int) :: st) w) : gX b s0 G k n pc L (rv sa :: st) w := by
  obtain ⟨hx, hb, -⟩ := Z
  obtain ⟨x1, x2, x3, x4⟩ := hX
  intro H locs ls hP hS hl
  have e : iv (Ls : Int) = .int (Int32.ofNat Ls) := congrArg Value.int (zI_nat Ls)
  exact va_slen hx hb x1 x2 x3 hS d (by rw [← e]; exact kk H locs ls hP hS hl)
theorem x_icmp_eqS (Z : gAm b l s0 G cc own nL rm) {x off : Int} (t : Nat) (d : decode cc pc = .ok (.if_icmp .eq off, 3)) (ht : (pc : Int) + off = (t : Int)) (kt : gX b s0 G k n t L st w) : gX b s0 G k n pc L (iv x :: iv x :: st) w := by
  obtain ⟨hx, hb, -⟩ := Z
  exact fun H locs ls hP hS hl => lv_icmp_eq hx hb d ht (fun _ => kt H locs ls hP hS hl) (fun h => absurd rfl h)
end GSC
/-- the law's state: both sides, apart, at as many knocks -/
def lC (G : gK) (w : wd) (K : kA) (R : rA) (oc : Nat) (M : kM) (S : rM) (y : Int64) (sv : Value) : Prop := kS G w K M ∧ rS G w R S ∧ w oc = some (eO 4 [.long y, sv]) ∧ ¬ kP K oc ∧ ¬ rP R S.1 oc ∧ (∀ q, kP K q → ¬ rP R S.1 q) ∧ M.2.2.2.2 = S.2.2.2.2.2.1
def lI (G : gK) (w : wd) (K : kA) (R : rA) (oc : Nat) : Prop := ∃ M S y sv, lC G w K R oc M S y sv
theorem lC.cls {G : gK} {w w9 : wd} {K : kA} {R : rA} {oc : Nat} {M : kM} {S : rM} {y : Int64} {sv : Value} (h : lC G w K R oc M S y sv) (hW : dW G w K M oc w9) : lI G w9 K R oc := by
  obtain ⟨h1, h2, h3, h4, h5, h6, h7⟩ := h
  obtain ⟨M', y', sv', a1, a2, a3, a4⟩ := hW
  exact ⟨M', S, y', sv', a1, h2.frm a4 (fun q hq e => e.elim (fun z => h6 q z hq) (fun z => h5 (by rw [← z]; exact hq))), a3, h4, h5, h6, a2.trans h7⟩
theorem lC.clk {G : gK} {w w9 : wd} {K : kA} {R : rA} {oc : Nat} {M M' : kM} {S : rM} {y : Int64} {sv : Value} (h : lC G w K R oc M S y sv) (a1 : kS G w9 K M') (a4 : fr (kP K) w w9) : rS G w9 R S ∧ w9 oc = some (eO 4 [.long y, sv]) := by
  obtain ⟨h1, h2, h3, h4, h5, h6, h7⟩ := h
  exact ⟨h2.frm a4 (fun q hq z => h6 q z hq), a4.at h4 h3⟩
theorem lC.rfk {G : gK} {w w9 : wd} {K : kA} {R : rA} {oc : Nat} {M : kM} {S S' : rM} {y : Int64} {sv : Value} (h1 : kS G w K M) (h3 : w oc = some (eO 4 [.long y, sv])) (h4 : ¬ kP K oc) (h5 : ¬ rP R S.1 oc) (h6 : ∀ q, kP K q → ¬ rP R S.1 q) (a1 : rS G w9 R S') (a2 : M.2.2.2.2 = S'.2.2.2.2.2.1) (a3 : fr (rP R S.1) w w9) (a4 : ∀ q, rP R S'.1 q → rP R S.1 q ∨ w q = none) : lI G w9 K R oc :=
  ⟨M, S', y, sv, h1.fr a3 (fun q hq z => h6 q hq z), a1, a3.at h5 h3, h4, fun z => (a4 _ z).elim h5 (fun e => by rw [e] at h3; cases h3), fun q hq z => (a4 _ z).elim (h6 q hq) (fun e => h1.some q hq e), a2⟩
theorem lC.ref {G : gK} {w w9 : wd} {K : kA} {R : rA} {oc : Nat} {M : kM} {S : rM} {y : Int64} {sv : Value} (h : lC G w K R oc M S y sv) (hW : rW G w R S w9) : lI G w9 K R oc := by
  obtain ⟨h1, h2, h3, h4, h5, h6, h7⟩ := h
  obtain ⟨S', a1, a2, a3, a4⟩ := hW
  exact lC.rfk h1 h3 h4 h5 h6 a1 (h7.trans a2.symm) a3 a4
theorem lC.sq {G : gK} {w w9 : wd} {K : kA} {R : rA} {oc : Nat} {M : kM} {S : rM} {y : Int64} {sv : Value} {z : Int} {P : Prop} {V : Int64} (h : lC G w K R oc M S y sv) (hW : dQ w oc z P V sv w9) : ∃ y5, lC G w9 K R oc M S y5 sv ∧ ((z = 1 ∧ ¬ P) ∨ (z = 0 ∧ P)) ∧ (z = 0 → y5 = V) := by
  rcases hW with ⟨e, hp, hw⟩ | ⟨e, hp, hw⟩
  · subst hw
    exact ⟨y, h, Or.inl ⟨e, hp⟩, fun h0 => by omega⟩
  · obtain ⟨h1, h2, h3, h4, h5, h6, h7⟩ := h
    subst hw
    refine ⟨V, ⟨h1.fr (P := fun q => q = oc) (fr.rf.set rfl) (fun q hq z => h4 (by rw [← z]; exact hq)), h2.frm (P := fun q => q = oc) (fr.rf.set rfl) (fun q hq z => h5 (by rw [← z]; exact hq)), ws1_s, h4, h5, h6, h7⟩, Or.inr ⟨e, hp⟩, fun _ => rfl⟩
theorem sq6 {T : Int} {P Q : Prop} (h : (T = 1 ∧ ¬ P) ∨ (T = 0 ∧ P ∧ Q)) : ((T = 1 ∧ ¬ P) ∨ (T = 0 ∧ P)) ∧ (T = 0 → Q) := by
  rcases h with ⟨e, hp⟩ | ⟨e, hp, hq⟩
  · exact ⟨Or.inl ⟨e, hp⟩, fun h0 => by omega⟩
  · exact ⟨Or.inr ⟨e, hp⟩, fun _ => hq⟩
