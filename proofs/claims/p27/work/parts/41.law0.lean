/-! the law: its start, its script, its state -/
theorem g_arr0 {s : State} {a0 : Array Value} {ty : FieldType} (h : (Cond.arrayClass ty).before a0 s = true) : ∃ c : ClassId, ArrOfT s c ty ∧ s.vm.findClass ("[" ++ ty.toString) = some c := by
  obtain ⟨c, k, comp, h1, h2, h3⟩ := Cond.arrayClass_spec h
  exact ⟨c, fun N z => ⟨(fun k h => by cases h), k, h2, comp, h3⟩, h1⟩
theorem g_start {s : State} {a0 : Array Value} (hts : ∀ w ∈ lw_tbl, w.before a0 s = true) : ∃ G : gK, gEnv s G s := by
  obtain ⟨c0, i0, k0⟩ := u_known (C := RJ0) (T := TJ0) (N := 4) (n := 4) hts (fun q hq => (List.mem_filter.mp (inJ0g q hq)).1) (hts _ (by decide +kernel))
  obtain ⟨c1, i1, k1⟩ := u_known (C := RJ4) (T := TJ4) (N := 4) (n := 4) hts (fun q hq => (List.mem_filter.mp (inJ4g q hq)).1) (hts _ (by decide +kernel))
  obtain ⟨c2, i2, k2⟩ := u_known (C := RX1) (T := TX1) (N := 3) (n := 3) hts (fun q hq => (List.mem_filter.mp (inX1g q hq)).1) (hts _ (by decide +kernel))
  obtain ⟨c3, i3, k3⟩ := u_known (C := RX2) (T := TX2) (N := 4) (n := 4) hts (fun q hq => (List.mem_filter.mp (inX2g q hq)).1) (hts _ (by decide +kernel))
  obtain ⟨c4, i4, k4⟩ := u_known (C := RX3) (T := TX3) (N := 2) (n := 2) hts (fun q hq => (List.mem_filter.mp (inX3g q hq)).1) (hts _ (by decide +kernel))
  obtain ⟨c5, i5, k5⟩ := u_known (C := RX4) (T := TX4) (N := 7) (n := 7) hts (fun q hq => (List.mem_filter.mp (inX4g q hq)).1) (hts _ (by decide +kernel))
  obtain ⟨cB, b1, b2⟩ := g_arr0 (hts (Cond.arrayClass .byte) (by decide +kernel))
  obtain ⟨cI, j1, j2⟩ := g_arr0 (hts (Cond.arrayClass .int) (by decide +kernel))
  obtain ⟨cZ, z1, z2⟩ := g_arr0 (hts (Cond.arrayClass .boolean) (by decide +kernel))
  obtain ⟨tc, cT, tk, t1, -, t3, t4, t5⟩ := Cond.arrayOver_spec (hts (Cond.arrayOver (.object RX1)) (by decide +kernel))
  obtain ⟨ac, cA, ak, y1, -, y3, y4, y5⟩ := arrayOverA_spec (hts (Cond.arrayOver (.array .int)) (by decide +kernel))
  refine ⟨((fun k => match k with | 0 => c0 | 1 => c1 | 2 => c2 | 3 => c3 | 4 => c4 | _ => c5, fun k => match k with | 0 => i0 | 1 => i1 | 2 => i2 | 3 => i3 | 4 => i4 | _ => i5), cB, cI, cZ, cT, cA), State.WarmedH.refl s, Nat.le_refl _, fun _ _ => rfl, ?_, ?_⟩
  · intro c q hq
    match c, hq with
    | 0, hq => cases hq; exact k0
    | 1, hq => cases hq; exact k1
    | 2, hq => cases hq; exact k2
    | 3, hq => cases hq; exact k3
    | 4, hq => cases hq; exact k4
    | 5, hq => cases hq; exact k5
    | c + 6, hq => simp [vwCl] at hq
  · intro k q hk
    match k, hk with
    | 0, hk => cases hk; exact ⟨b1, b2⟩
    | 1, hk => cases hk; exact ⟨j1, j2⟩
    | 2, hk => cases hk; exact ⟨z1, z2⟩
    | 3, hk => cases hk; exact ⟨fun N z => ⟨(fun k h => by cases h), tk, t3, tc, t4⟩, tk, tc, t3, t4, t1, t5⟩
    | 4, hk => cases hk; exact ⟨fun N z => ⟨(fun k h => by cases h), ak, y3, ac, y4⟩, y5⟩
    | k + 5, hk => simp at hk
/-- the law's script -/
def lX (b : gBt) (s0 : State) (sa Ls : Nat) (xs : Nat → Int32) : Prop := va_X sa Ls xs (bs b) (bs b).heap ∧ sa < (bs b).heap.size ∧ ¬ gA s0 sa ∧ Ls ≤ 256
/-- an int of the script -/
def sx (xs : Nat → Int32) (i : Int) : Int := (xs (zI i).toNatClampNeg).toInt
section GSC
variable {b : gBt} {l : Launch} {s0 : State} {G : gK} {cc : ByteArray} {own : String} {nL : Nat} {rm : Room} {k n pc : Nat} {L : List (Nat × Value)} {st rest : List Value} {w : wd}
theorem x_sld (Z : gAm b l s0 G cc own nL rm) {sa Ls : Nat} {xs : Nat → Int32} (hX : lX b s0 sa Ls xs) {i : Int} (h1 : 0 ≤ i) (h2 : i < Ls) (d : decode cc pc = .ok (.iaload, 1)) (kk : inr (sx xs i) → gX b s0 G k n (pc + 1) L (iv (sx xs i) :: st) w) : gX b s0 G k n pc L (iv i :: rv sa :: st) w := by
  obtain ⟨hx, hb, -⟩ := Z
  obtain ⟨x1, x2, x3, x4⟩ := hX
  intro H locs ls hP hS hl
  have e : iv (sx xs i) = .int (xs (zI i).toNatClampNeg) := congrArg Value.int (zI_of _)
  have hr : inr (sx xs i) := ⟨Int32.le_toInt _, by have := Int32.toInt_lt (xs (zI i).toNatClampNeg); unfold sx; omega⟩
  exact va_sld hx hb x1 x2 x3 hS (zI_ix h1 h2 (by omega)).1 d (by rw [← e]; exact kk hr H locs ls hP hS hl)
theorem x_slen (Z : gAm b l s0 G cc own nL rm) {sa Ls : Nat} {xs : Nat → Int32} (hX : lX b s0 sa Ls xs) (d : decode cc pc = .ok (.arraylength, 1)) (kk : gX b s0 G k n (pc + 1) L (iv (Ls : Int) :: st) w) : gX b s0 G k n pc L (rv sa :: st) w := by
  obtain ⟨hx, hb, -⟩ := Z
  obtain ⟨x1, x2, x3, x4⟩ := hX
  intro H locs ls hP hS hl
  have e : iv (Ls : Int) = .int (Int32.ofNat Ls) := congrArg Value.int (zI_nat Ls)
  exact va_slen hx hb x1 x2 x3 hS d (by rw [← e]; exact kk H locs ls hP hS hl)
theorem x_icmp_eqS (Z : gAm b l s0 G cc own nL rm) {x off : Int} (t : Nat) (d : decode cc pc = .ok (.if_icmp .eq off, 3)) (ht : (pc : Int) + off = (t : Int)) (kt : gX b s0 G k n t L st w) : gX b s0 G k n pc L (iv x :: iv x :: st) w := by
  obtain ⟨hx, hb, -⟩ := Z
  exact fun H locs ls hP hS hl => lv_icmp_eq hx hb d ht (fun _ => kt H locs ls hP hS hl) (fun h => absurd rfl h)
end GSC
/-- the law's state: both sides, apart, alike -/
def lC (G : gK) (w : wd) (K : kA) (R : rA) (oc : Nat) (M : kM) (S : rM) (y : Int64) (sv : Value) : Prop := kS G w K M ∧ rS G w R S ∧ w oc = some (eO 4 [.long y, sv]) ∧ ¬ kP K oc ∧ ¬ rP R S.1 oc ∧ (∀ q, kP K q → ¬ rP R S.1 q) ∧ cpl M S
def lI (G : gK) (w : wd) (K : kA) (R : rA) (oc : Nat) : Prop := ∃ M S y sv, lC G w K R oc M S y sv
theorem cpl.v {M : kM} {S : rM} (h : cpl M S) : vEq M.1 M.2.1 S.2.1 S.2.2.1 := h.1
theorem kS.n0 {G : gK} {w : wd} {K : kA} {M : kM} (h : kS G w K M) {t : Int} (t0 : 0 ≤ t) (t3 : t < 3) : 0 ≤ M.1 t := by
  obtain ⟨B, ht⟩ := h.2.2.1 t t0 t3
  exact ht.2.2.2.1
theorem cpl.pbg {M : kM} {S : rM} (h : cpl M S) {t k : Int} (t0 : 0 ≤ t) (t3 : t < 3) (n0 : 0 ≤ M.1 t) : pbg (M.1 t) (M.2.1 t) k = pbg (S.2.1 t) (S.2.2.1 t) k := by
  obtain ⟨e, hc⟩ := h.1 t t0 t3
  rw [pbg_cg n0 hc, e]
theorem cpl.mnd {M : kM} {S : rM} (h : cpl M S) {t : Int} (t0 : 0 ≤ t) (t3 : t < 3) (n0 : 0 ≤ M.1 t) : ∀ j, 0 ≤ j → j < M.1 t → mnd (M.1 t) (M.2.1 t) j = mnd (S.2.1 t) (S.2.2.1 t) j := fun j j0 jn => by
  obtain ⟨e, hc⟩ := h.1 t t0 t3
  rw [mnd_cg n0 hc j j0 jn, e]
theorem lC.cls {G : gK} {w w9 : wd} {K : kA} {R : rA} {oc : Nat} {M : kM} {S : rM} {y : Int64} {sv : Value} (h : lC G w K R oc M S y sv) (hW : dV G w K M oc w9) : ∃ y' sv', lC G w9 K R oc M S y' sv' := by
  obtain ⟨h1, h2, h3, h4, h5, h6, h7⟩ := h
  obtain ⟨y', sv', a1, a3, a4⟩ := hW
  exact ⟨y', sv', a1, h2.frm a4 (fun q hq e => e.elim (fun z => h6 q z hq) (fun z => h5 (by rw [← z]; exact hq))), a3, h4, h5, h6, h7⟩
theorem lC.clk {G : gK} {w w9 : wd} {K : kA} {R : rA} {oc : Nat} {M M' : kM} {S : rM} {y : Int64} {sv : Value} (h : lC G w K R oc M S y sv) (a1 : kS G w9 K M') (a4 : fr (kP K) w w9) : rS G w9 R S ∧ w9 oc = some (eO 4 [.long y, sv]) := by
  obtain ⟨h1, h2, h3, h4, h5, h6, h7⟩ := h
  exact ⟨h2.frm a4 (fun q hq z => h6 q z hq), a4.at h4 h3⟩
theorem lC.rfk {G : gK} {w w9 : wd} {K : kA} {R : rA} {oc : Nat} {M : kM} {S S' : rM} {y : Int64} {sv : Value} (h1 : kS G w K M) (h3 : w oc = some (eO 4 [.long y, sv])) (h4 : ¬ kP K oc) (h5 : ¬ rP R S.1 oc) (h6 : ∀ q, kP K q → ¬ rP R S.1 q) (a1 : rS G w9 R S') (a2 : cpl M S') (a3 : fr (rP R S.1) w w9) (a4 : ∀ q, rP R S'.1 q → rP R S.1 q ∨ w q = none) : lI G w9 K R oc :=
  ⟨M, S', y, sv, h1.fr a3 (fun q hq z => h6 q hq z), a1, a3.at h5 h3, h4, fun z => (a4 _ z).elim h5 (fun e => by rw [e] at h3; cases h3), fun q hq z => (a4 _ z).elim (h6 q hq) (fun e => h1.some q hq e), a2⟩
theorem lC.ref {G : gK} {w w9 : wd} {K : kA} {R : rA} {oc : Nat} {M : kM} {S : rM} {y : Int64} {sv : Value} {T : Int} (h : lC G w K R oc M S y sv) (hS : rS G w9 R (rT S T)) (hf : fr (rP R S.1) w w9) : lI G w9 K R oc := by
  obtain ⟨h1, h2, h3, h4, h5, h6, h7⟩ := h
  exact lC.rfk h1 h3 h4 h5 h6 hS h7 hf (fun q hq => Or.inl hq)
theorem lC.actS {G : gK} {w w9 : wd} {K : kA} {R : rA} {oc : Nat} {M : kM} {S : rM} {y : Int64} {sv : Value} {P1 P2 : Prop} {x : oT} {z : Int} (h : lC G w K R oc M S y sv) (hc : dA G w K M oc P1 P2 x sv z w9) : rS G w9 R S := by
  obtain ⟨h1, h2, h3, h4, h5, h6, h7⟩ := h
  rcases hc with ⟨_, _, e⟩ | ⟨_, _, _, e⟩ | ⟨_, _, _, z2, M', _, _, _, hf⟩
  · rw [e]; exact h2
  · rw [e]; exact h2
  · exact h2.frm hf (fun q hq e => e.elim (fun z => h6 q z hq) (fun z => h5 (by rw [← z]; exact hq)))
/-- both sides after an act -/
theorem lC.act {G : gK} {w w9 w' : wd} {K : kA} {R : rA} {oc : Nat} {M : kM} {S : rM} {y : Int64} {sv : Value} {P1 P2 Q1 Q2 : Prop} {x x' : oT} {z z6 : Int} (h : lC G w K R oc M S y sv) (hc : dA G w K M oc P1 P2 x sv z w9) (hr : rAct G w9 R S Q1 Q2 x' w' z6) (hPQ : P1 ↔ Q1) (hPQ2 : P1 → (P2 ↔ Q2)) (he : P1 → P2 → oEq x x') : ∃ (S' : rM) (y5 : Int64), lI G w' K R oc ∧ rS G w' R S' ∧ S'.2.2.2.2.2.2 = z ∧ w' oc = some (eO 4 [.long y5, sv]) ∧ (z = 0 → y5 = (zI z6).toInt64) ∧ 0 ≤ z ∧ z ≤ 2 := by
  obtain ⟨h1, h2, h3, h4, h5, h6, h7⟩ := h
  obtain ⟨S', T, ⟨r1, r2, r3, r4⟩, rT9, hcase⟩ := hr
  have go : ∀ (M5 : kM) (y5 : Int64), kS G w9 K M5 → w9 oc = some (eO 4 [.long y5, sv]) → cpl M5 S' → lI G w' K R oc ∧ w' oc = some (eO 4 [.long y5, sv]) := fun M5 y5 a1 a2 a3 => ⟨lC.rfk a1 a2 h4 h5 h6 r1 a3 r3 r4, r3.at h5 a2⟩
  rcases hc with ⟨e, np, ew⟩ | ⟨e, p1, np, ew⟩ | ⟨e, p1, p2, z2, M', ha, hk, ho, hf⟩
  · rcases hcase with ⟨t, _, hs⟩ | ⟨t, q1, _, _⟩ | ⟨t, q1, _, _⟩
    · have g := go M y (by rw [ew]; exact h1) (by rw [ew]; exact h3) (by rw [hs]; exact h7)
      exact ⟨S', y, g.1, r1, by rw [rT9, t, e], g.2, fun z0 => by omega, by omega, by omega⟩
    · exact absurd (hPQ.mpr q1) np
    · exact absurd (hPQ.mpr q1) np
  · rcases hcase with ⟨t, q1, _⟩ | ⟨t, _, _, hs⟩ | ⟨t, _, q2, _⟩
    · exact absurd (hPQ.mp p1) q1
    · have g := go M y (by rw [ew]; exact h1) (by rw [ew]; exact h3) (by rw [hs]; exact h7)
      exact ⟨S', y, g.1, r1, by rw [rT9, t, e], g.2, fun z0 => by omega, by omega, by omega⟩
    · exact absurd ((hPQ2 p1).mpr q2) np
  · rcases hcase with ⟨t, q1, _⟩ | ⟨t, _, q2, _⟩ | ⟨t, _, _, hd⟩
    · exact absurd (hPQ.mp p1) q1
    · exact absurd ((hPQ2 p1).mp p2) q2
    · obtain ⟨ez, hcp⟩ := h7.act (he p1 p2) ha hd
      have g := go M' _ hk ho hcp
      exact ⟨S', _, g.1, r1, by rw [rT9, t, e], g.2, fun _ => by rw [ez], by omega, by omega⟩
theorem lC.tq {G : gK} {w w9 : wd} {K : kA} {R : rA} {oc : Nat} {M : kM} {S : rM} {y : Int64} {sv : Value} {P1 P2 : Prop} {Q : Int64 → Prop} {z : Int} (h : lC G w K R oc M S y sv) (hc : dT G w K M oc P1 P2 Q sv z w9) : ∃ y5, lC G w9 K R oc M S y5 sv ∧ ((z = 1 ∧ ¬ P1) ∨ (z = 2 ∧ P1 ∧ ¬ P2) ∨ (z = 0 ∧ P1 ∧ P2 ∧ Q y5)) := by
  rcases hc with ⟨e, np, ew⟩ | ⟨e, p1, np, ew⟩ | ⟨e, p1, p2, y5, hq, hk, ho, hf⟩
  · exact ⟨y, by rw [ew]; exact h, Or.inl ⟨e, np⟩⟩
  · exact ⟨y, by rw [ew]; exact h, Or.inr (Or.inl ⟨e, p1, np⟩)⟩
  · obtain ⟨h1, h2, h3, h4, h5, h6, h7⟩ := h
    exact ⟨y5, ⟨hk, h2.frm hf (fun q hq e => e.elim (fun z => h6 q z hq) (fun z => h5 (by rw [← z]; exact hq))), ho, h4, h5, h6, h7⟩, Or.inr (Or.inr ⟨e, p1, p2, hq⟩)⟩
theorem tq2 {z T : Int} {P1 P2 Q1 Q2 Y Z : Prop} (h : (z = 1 ∧ ¬ P1) ∨ (z = 2 ∧ P1 ∧ ¬ P2) ∨ (z = 0 ∧ P1 ∧ P2 ∧ Y)) (h2 : (T = 1 ∧ ¬ Q1) ∨ (T = 2 ∧ Q1 ∧ ¬ Q2) ∨ (T = 0 ∧ Q1 ∧ Q2 ∧ Z)) (e1 : P1 ↔ Q1) (e2 : P1 → (P2 ↔ Q2)) : z = T ∧ (z = 0 → P1 ∧ P2 ∧ Y ∧ Z) ∧ 0 ≤ z ∧ z ≤ 2 := by
  rcases h with ⟨a, b⟩ | ⟨a, b, c⟩ | ⟨a, b, c, d⟩
  · rcases h2 with ⟨a2, b2⟩ | ⟨a2, b2, c2⟩ | ⟨a2, b2, c2, d2⟩
    · exact ⟨by omega, fun q => by omega, by omega, by omega⟩
    · exact absurd (e1.mpr b2) b
    · exact absurd (e1.mpr b2) b
  · rcases h2 with ⟨a2, b2⟩ | ⟨a2, b2, c2⟩ | ⟨a2, b2, c2, d2⟩
    · exact absurd (e1.mp b) b2
    · exact ⟨by omega, fun q => by omega, by omega, by omega⟩
    · exact absurd ((e2 b).mpr c2) c
  · rcases h2 with ⟨a2, b2⟩ | ⟨a2, b2, c2⟩ | ⟨a2, b2, c2, d2⟩
    · exact absurd (e1.mp b) b2
    · exact absurd ((e2 b).mp c) c2
    · exact ⟨by omega, fun _ => ⟨b, c, d, d2⟩, by omega, by omega⟩
theorem tq1 {z T : Int} {P1 Q1 Y Z : Prop} (h : (z = 1 ∧ ¬ P1) ∨ (z = 2 ∧ P1 ∧ ¬ True) ∨ (z = 0 ∧ P1 ∧ True ∧ Y)) (h2 : (T = 1 ∧ ¬ Q1) ∨ (T = 0 ∧ Q1 ∧ Z)) (e1 : P1 ↔ Q1) : z = T ∧ (z = 0 → P1 ∧ True ∧ Y ∧ Z) ∧ 0 ≤ z ∧ z ≤ 2 :=
  tq2 (P2 := True) (Q2 := True) h (h2.elim Or.inl (fun a => Or.inr (Or.inr ⟨a.1, a.2.1, trivial, a.2.2⟩))) e1 (fun _ => Iff.rfl)
theorem tqv {y : Int64} {z a b : Int} (hy : y = (zI a).toInt64) (hz : z = b) (e : a = b) : y = (zI z).toInt64 := by rw [hy, hz, e]
theorem tqb {y : Int64} {z a b q : Bool} (hy : y = cond a 1 0) (hz : z = b) (e : a = b) (hq : z = q) : y = cond q 1 0 := by rw [hy, e, ← hz, hq]
section CQ
variable {G : gK} {w : wd} {K : kA} {M : kM} {S : rM} {t u : Int}
theorem kS.n30 (h : kS G w K M) (t0 : 0 ≤ t) (t3 : t < 3) : 0 ≤ M.1 t ∧ M.1 t ≤ 30 := by
  obtain ⟨B, ht⟩ := h.2.2.1 t t0 t3
  exact ⟨ht.2.2.2.1, ht.2.2.2.2.1⟩
theorem cq_cst (h : cpl M S) (hk : kS G w K M) (t0 : 0 ≤ t) (t3 : t < 3) {P : Int → Int → Bool} : forI (cst (fun j => P (M.2.1 t j) j)) 0 (M.1 t) 0 = forI (cst (fun j => P (S.2.2.1 t j) j)) 0 (S.2.1 t) 0 := by
  obtain ⟨e, hc⟩ := h.1 t t0 t3
  rw [← e]
  exact cst_cg (hk.n30 t0 t3).1 (fun j j0 jn => by show P (M.2.1 t j) j = P (S.2.2.1 t j) j; rw [hc j j0 jn])
theorem cq_fnd (h : cpl M S) (hk : kS G w K M) (t0 : 0 ≤ t) (t3 : t < 3) {P : Int → Int → Bool} : findI (fun j => P (M.2.1 t j) j) 0 (M.1 t) = findI (fun j => P (S.2.2.1 t j) j) 0 (S.2.1 t) := by
  obtain ⟨e, hc⟩ := h.1 t t0 t3
  rw [← e]
  exact findI_cg (hk.n30 t0 t3).1 (fun j j0 jn => by show P (M.2.1 t j) j = P (S.2.2.1 t j) j; rw [hc j j0 jn])
theorem cq_all (h : cpl M S) (hk : kS G w K M) (t0 : 0 ≤ t) (t3 : t < 3) {q : Int} : decide (findI (fun j => !so (M.2.1 t j) q) 0 (M.1 t) = M.1 t) = decide (findI (fun j => !so (S.2.2.1 t j) q) 0 (S.2.1 t) = S.2.1 t) := by
  have e := (h.1 t t0 t3).1
  have f := cq_fnd h hk t0 t3 (P := fun c _ => !so c q)
  rw [show findI (fun j => !so (M.2.1 t j) q) 0 (M.1 t) = findI (fun j => !so (S.2.2.1 t j) q) 0 (S.2.1 t) from f, e]
theorem cq_fst (h : cpl M S) (hk : kS G w K M) (t0 : 0 ≤ t) (t3 : t < 3) {q : Int} {o : Bool} : forI (fst9 (fun j => so (M.2.1 t j) q) o) 0 (M.1 t) (-1) = forI (fst9 (fun j => so (S.2.2.1 t j) q) o) 0 (S.2.1 t) (-1) := by
  obtain ⟨e, hc⟩ := h.1 t t0 t3
  rw [← e]
  exact forI_cg (hk.n30 t0 t3).1 (fun j v j0 jn => by unfold fst9; rw [show (fun j => so (M.2.1 t j) q) j = so (S.2.2.1 t j) q by show so (M.2.1 t j) q = _; rw [hc j j0 jn]])
theorem cq_alk (h : cpl M S) (hk : kS G w K M) (t0 : 0 ≤ t) (t3 : t < 3) (u0 : 0 ≤ u) (u3 : u < 3) : decide (M.1 t = M.1 u ∧ findI (fun j => decide (kin (M.2.1 t j) ≠ kin (M.2.1 u j))) 0 (M.1 t) = M.1 t) = decide (S.2.1 t = S.2.1 u ∧ findI (fun j => decide (kin (S.2.2.1 t j) ≠ kin (S.2.2.1 u j))) 0 (S.2.1 t) = S.2.1 t) := by
  obtain ⟨e, hc⟩ := h.1 t t0 t3
  obtain ⟨e2, hc2⟩ := h.1 u u0 u3
  rw [← e, ← e2]
  by_cases q : M.1 t = M.1 u
  · rw [findI_cg (P := fun j => decide (kin (M.2.1 t j) ≠ kin (M.2.1 u j))) (Q := fun j => decide (kin (S.2.2.1 t j) ≠ kin (S.2.2.1 u j))) (hk.n30 t0 t3).1 (fun j j0 jn => by show decide (kin (M.2.1 t j) ≠ kin (M.2.1 u j)) = _; rw [hc j j0 jn, hc2 j j0 (by omega)])]
  · rw [decide_eq_false (fun z => q z.1), decide_eq_false (fun z => q z.1)]
theorem cq_lon (h : cpl M S) (t0 : 0 ≤ t) (t3 : t < 3) {p : Int} (p0 : 0 ≤ p) (pn : p < M.1 t) : lon (M.1 t) (M.2.1 t) p = lon (S.2.1 t) (S.2.2.1 t) p := by
  obtain ⟨e, hc⟩ := h.1 t t0 t3
  rw [lon_cg hc p0 pn, e]
theorem cq_nam (h : cpl M S) (t0 : 0 ≤ t) (t3 : t < 3) : decide (0 < M.1 t ∧ sb (M.2.1 t 0) = 0 ∧ lon (M.1 t) (M.2.1 t) 0 = M.1 t) = decide (0 < S.2.1 t ∧ sb (S.2.2.1 t 0) = 0 ∧ lon (S.2.1 t) (S.2.2.1 t) 0 = S.2.1 t) := by
  obtain ⟨e, hc⟩ := h.1 t t0 t3
  rw [← e]
  by_cases q : 0 < M.1 t
  · rw [hc 0 (Int.le_refl 0) q, lon_cg hc (Int.le_refl 0) q]
  · rw [decide_eq_false (fun z => q z.1), decide_eq_false (fun z => q z.1)]
theorem cq_flt (h : cpl M S) (hk : kS G w K M) (t0 : 0 ≤ t) (t3 : t < 3) : (if findI (fun j => !so (M.2.1 t j) (cond (decide (j = 0)) 11 12)) 0 (M.1 t) < M.1 t then findI (fun j => !so (M.2.1 t j) (cond (decide (j = 0)) 11 12)) 0 (M.1 t) else if M.1 t = 0 then 0 else -1) = (if findI (fun j => !so (S.2.2.1 t j) (cond (decide (j = 0)) 11 12)) 0 (S.2.1 t) < S.2.1 t then findI (fun j => !so (S.2.2.1 t j) (cond (decide (j = 0)) 11 12)) 0 (S.2.1 t) else if S.2.1 t = 0 then 0 else -1) := by
  have e := (h.1 t t0 t3).1
  have f := cq_fnd h hk t0 t3 (P := fun c j => !so c (cond (decide (j = 0)) 11 12))
  rw [show findI (fun j => !so (M.2.1 t j) (cond (decide (j = 0)) 11 12)) 0 (M.1 t) = findI (fun j => !so (S.2.2.1 t j) (cond (decide (j = 0)) 11 12)) 0 (S.2.1 t) from f, e]
theorem cq_srt (h : cpl M S) (t0 : 0 ≤ t) (t3 : t < 3) {f g : Int} (f0 : 0 ≤ f) (fg : f < g) (gn : g ≤ M.1 t) : (if g - f ≤ lon (M.1 t) (M.2.1 t) f then sb (M.2.1 t f) else -1) = srt (S.2.1 t) (S.2.2.1 t) f g := by
  obtain ⟨e, hc⟩ := h.1 t t0 t3
  unfold srt
  rw [← e, lon_cg hc f0 (by omega), hc f f0 (by omega)]
theorem cq_pce (h : cpl M S) (hk : kS G w K M) (t0 : 0 ≤ t) (t3 : t < 3) {k m : Int} (hb : 0 ≤ pbg (M.1 t) (M.2.1 t) k) : (if m = 0 then pbg (M.1 t) (M.2.1 t) k else if m = 1 then lon (M.1 t) (M.2.1 t) (pbg (M.1 t) (M.2.1 t) k) else sb (M.2.1 t (pbg (M.1 t) (M.2.1 t) k))) = (if m = 0 then pbg (S.2.1 t) (S.2.2.1 t) k else if m = 1 then lon (S.2.1 t) (S.2.2.1 t) (pbg (S.2.1 t) (S.2.2.1 t) k) else sb (S.2.2.1 t (pbg (S.2.1 t) (S.2.2.1 t) k))) := by
  obtain ⟨e, hc⟩ := h.1 t t0 t3
  have hn := hk.n30 t0 t3
  have hp := pbg_in (n := M.1 t) (C := M.2.1 t) (k := k) hn.1
  rw [← e, ← pbg_cg hn.1 hc, ← lon_cg hc hb (by omega), ← hc _ hb (by omega)]
theorem cq_pcs (h : cpl M S) (hk : kS G w K M) (t0 : 0 ≤ t) (t3 : t < 3) {z : Int} (hz : ∃ a : Nat, plN (S.2.1 t) (S.2.2.1 t) a ∧ z = (a : Int)) : bcn (beg (M.1 t) (M.2.1 t)) = z := by
  obtain ⟨e, hc⟩ := h.1 t t0 t3
  have hn := hk.n30 t0 t3
  obtain ⟨a, ha, hz⟩ := hz
  obtain ⟨b, hb, hy⟩ := bcn_beg (C := M.2.1 t) hn.1 hn.2
  rw [← e] at ha
  rw [hy, hz, plN_u hn.1 hc hb ha]
theorem cq_cts (h : cpl M S) (hk : kS G w K M) (t0 : 0 ≤ t) (t3 : t < 3) {z : Int} (hz : inr z ∧ ∃ a : Nat, plN (S.2.1 t) (S.2.2.1 t) a ∧ plM (S.2.1 t) (S.2.2.1 t) a z) : bAnd (beg (M.1 t) (M.2.1 t)) (-2) = z := by
  obtain ⟨e, hc⟩ := h.1 t t0 t3
  have hn := hk.n30 t0 t3
  obtain ⟨hr, a, ha, hm⟩ := hz
  obtain ⟨b, hb, hy⟩ := begM (C := M.2.1 t) hn.1 hn.2
  rw [← e] at ha hm
  exact plM_u hn.1 hc (bAnd_in _ _) hr hb hy ha hm
theorem cq_bck (h : cpl M S) (hk : kS G w K M) (t0 : 0 ≤ t) (t3 : t < 3) {y z : Int} (hy : inr y ∧ ∃ a : Nat, bkM (M.1 t) (M.2.1 t) false a y ∧ bkc (M.1 t) (M.2.1 t) a = 0) (hz : inr z ∧ ∃ a : Nat, bkM (S.2.1 t) (S.2.2.1 t) false a z ∧ bkc (S.2.1 t) (S.2.2.1 t) a = 0) : y = z := by
  obtain ⟨e, hc⟩ := h.1 t t0 t3
  have hn := hk.n30 t0 t3
  obtain ⟨r1, a, ha, ea⟩ := hy
  obtain ⟨r2, b, hb, eb⟩ := hz
  rw [← e] at hb eb
  exact bkM_u hn.1 hc r1 r2 ha ea hb eb
theorem cq_few (h : cpl M S) (hk : kS G w K M) (t0 : 0 ≤ t) (t3 : t < 3) {y z : Int} (hy : ∃ B : Int → Int, fwP (M.1 t) (M.2.1 t) B ∧ y = B (M.1 t)) (hz : ∃ B : Int → Int, fwP (S.2.1 t) (S.2.2.1 t) B ∧ z = B (S.2.1 t)) : y = z := by
  obtain ⟨e, hc⟩ := h.1 t t0 t3
  have hn := hk.n30 t0 t3
  obtain ⟨B, hB, ey⟩ := hy
  obtain ⟨B2, hB2, ez⟩ := hz
  rw [← e] at hB2 ez
  rw [ey, ez, fw_e hc hn.1 hB hB2]
theorem cq_pt (h : cpl M S) (t0 : 0 ≤ t) (t3 : t < 3) {m : Int} : ptI (M.1 t) (M.2.1 t) m 1 0 0 = ptI (S.2.1 t) (S.2.2.1 t) m 1 0 0 := by
  obtain ⟨e, hc⟩ := h.1 t t0 t3
  rw [ptI_cg hc, e]
theorem cq_nms (h : cpl M S) : forI (cst (fun i => decide (0 < M.1 i ∧ sb (M.2.1 i 0) = 0 ∧ lon (M.1 i) (M.2.1 i) 0 = M.1 i))) 0 3 0 = forI (cst (fun i => decide (0 < S.2.1 i ∧ sb (S.2.2.1 i 0) = 0 ∧ lon (S.2.1 i) (S.2.2.1 i) 0 = S.2.1 i))) 0 3 0 := cst_cg (by decide) (fun i i0 i3 => cq_nam h i0 i3)
theorem cq_hou (h : cpl M S) {m : Int} : (if m = 0 then 0 + M.1 0 + M.1 1 + M.1 2 else if m = 1 then M.2.2.1 else if m = 2 then M.2.2.2.1 else if m = 3 then M.2.2.2.2 else forI (cst (fun i => decide (0 < M.1 i ∧ sb (M.2.1 i 0) = 0 ∧ lon (M.1 i) (M.2.1 i) 0 = M.1 i))) 0 3 0) = (if m = 0 then 0 + S.2.1 0 + S.2.1 1 + S.2.1 2 else if m = 1 then S.2.2.2.1 else if m = 2 then S.2.2.2.2.1 else if m = 3 then S.2.2.2.2.2.1 else forI (cst (fun i => decide (0 < S.2.1 i ∧ sb (S.2.2.1 i 0) = 0 ∧ lon (S.2.1 i) (S.2.2.1 i) 0 = S.2.1 i))) 0 3 0) := by
  rw [cq_nms h, (h.1 0 (by decide) (by decide)).1, (h.1 1 (by decide) (by decide)).1, (h.1 2 (by decide) (by decide)).1, h.2.1, h.2.2.1, h.2.2.2]
theorem cq_snd (h : cpl M S) (hk : kS G w K M) {q5 q6 : Bool} (a : q5 = true ↔ ∀ j, 0 ≤ j → j < 3 → SND (M.1 j) (M.2.1 j)) (b : q6 = true ↔ ∀ j, 0 ≤ j → j < 3 → SND (S.2.1 j) (S.2.2.1 j)) : q5 = q6 := by
  have go : q5 = true ↔ q6 = true := by
    rw [a, b]
    constructor
    · intro x j j0 j3
      obtain ⟨e, hc⟩ := h.1 j j0 j3
      rw [← e]
      exact (SND_cg (hk.n30 j0 j3).1 hc).mp (x j j0 j3)
    · intro x j j0 j3
      obtain ⟨e, hc⟩ := h.1 j j0 j3
      have y := x j j0 j3
      rw [← e] at y
      exact (SND_cg (hk.n30 j0 j3).1 hc).mpr y
  cases q5 with
  | true => exact (go.mp rfl).symm
  | false =>
    cases q6 with
    | false => rfl
    | true => exact absurd (go.mpr rfl) (by decide)
theorem cq_dig (h : cpl M S) (hk : kS G w K M) : forI (fun m d => dmx d ((fun m : Int => (if m = 0 then 0 + M.1 0 + M.1 1 + M.1 2 else if m = 1 then M.2.2.1 else if m = 2 then M.2.2.2.1 else if m = 3 then M.2.2.2.2 else forI (cst (fun i => decide (0 < M.1 i ∧ sb (M.2.1 i 0) = 0 ∧ lon (M.1 i) (M.2.1 i) 0 = M.1 i))) 0 3 0)) m)) 0 5 (forI (fun j d => dgT (M.1 j) (M.2.1 j) d) 0 3 8005) = forI (fun m d => dmx d ((fun m : Int => (if m = 0 then 0 + S.2.1 0 + S.2.1 1 + S.2.1 2 else if m = 1 then S.2.2.2.1 else if m = 2 then S.2.2.2.2.1 else if m = 3 then S.2.2.2.2.2.1 else forI (cst (fun i => decide (0 < S.2.1 i ∧ sb (S.2.2.1 i 0) = 0 ∧ lon (S.2.1 i) (S.2.2.1 i) 0 = S.2.1 i))) 0 3 0)) m)) 0 5 (forI (fun j d => dgT (S.2.1 j) (S.2.2.1 j) d) 0 3 8005) := by
  have e1 : forI (fun j d => dgT (M.1 j) (M.2.1 j) d) 0 3 (8005 : Int64) = forI (fun j d => dgT (S.2.1 j) (S.2.2.1 j) d) 0 3 8005 := forI_cg (by decide) (fun j d j0 j3 => by
    obtain ⟨e, hc⟩ := h.1 j j0 j3
    show dgT (M.1 j) (M.2.1 j) d = dgT (S.2.1 j) (S.2.2.1 j) d
    rw [← e]
    exact dgT_cg (hk.n30 j0 j3).1 hc)
  rw [e1]
  exact forI_cg (by decide) (fun m d _ _ => congrArg (dmx d) (cq_hou h))
end CQ
theorem lC.sq {G : gK} {w w9 : wd} {K : kA} {R : rA} {oc : Nat} {M : kM} {S : rM} {y : Int64} {sv : Value} {z : Int} {P : Prop} {V : Int64} (h : lC G w K R oc M S y sv) (hW : dQ w oc z P V sv w9) : ∃ y5, lC G w9 K R oc M S y5 sv ∧ ((z = 1 ∧ ¬ P) ∨ (z = 0 ∧ P)) ∧ (z = 0 → y5 = V) := by
  rcases hW with ⟨e, hp, hw⟩ | ⟨e, hp, hw⟩
  · subst hw
    exact ⟨y, h, Or.inl ⟨e, hp⟩, fun h0 => by omega⟩
  · obtain ⟨h1, h2, h3, h4, h5, h6, h7⟩ := h
    subst hw
    refine ⟨V, ⟨h1.fr (P := fun q => q = oc) (fr.rf.set rfl) (fun q hq z => h4 (by rw [← z]; exact hq)), h2.frm (P := fun q => q = oc) (fr.rf.set rfl) (fun q hq z => h5 (by rw [← z]; exact hq)), ws1_s, h4, h5, h6, h7⟩, Or.inr ⟨e, hp⟩, fun _ => rfl⟩
theorem sq6 {T : Int} {P Q : Prop} (h : (T = 1 ∧ ¬ P) ∨ (T = 0 ∧ P ∧ Q)) : ((T = 1 ∧ ¬ P) ∨ (T = 0 ∧ P)) ∧ (T = 0 → Q) := by
  rcases h with ⟨e, hp⟩ | ⟨e, hp, hq⟩
  · exact ⟨Or.inl ⟨e, hp⟩, fun h0 => by omega⟩
  · exact ⟨Or.inr ⟨e, hp⟩, fun _ => hq⟩
