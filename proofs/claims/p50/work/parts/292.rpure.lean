/-! what the reference tells, as pure words -/
theorem arrV_cg {c : ClassId} {N : Nat} {f g : Nat → Value} (h : ∀ j, j < N → f j = g j) : arrV c N f = arrV c N g := by
  unfold arrV
  congr 1
  exact congrArg Array.ofFn (funext fun j => h j.val j.isLt)
section GEV
variable {b : gBt} {l : Launch} {s0 : State} {G : gK} {cc : ByteArray} {own : String} {nL : Nat} {rm : Room} {k n pc : Nat} {L : List (Nat × Value)} {st : List Value} {w : wd}
theorem x_ev {a len : Nat} {F F' : Int → Int} (hw : w a = some (eI G len F)) (he : ∀ j : Nat, j < len → F (j : Int) = F' (j : Int)) (kk : gX b s0 G k n pc L st (ws1 w a (eI G len F'))) : gX b s0 G k n pc L st w :=
  fun H locs ls hP hS hl => kk H locs ls (hP.set hw ((g_arr hP hw).trans (congrArg some (arrV_cg (f := fun j => iv (F (j : Int))) (g := fun j => iv (F' (j : Int))) (fun j hj => congrArg iv (he j hj))))) (fun _ _ => rfl)) hS hl
end GEV
/-- a kind told of a span -/
def tld (k f t : Int) (F : Int → Int) : Int → Int := fun j => if f ≤ j ∧ j ≤ t then k else F j
theorem uF_rng {F : Int → Int} {i x : Int} (h : ∀ j, 0 ≤ F j ∧ F j ≤ 255) (h0 : 0 ≤ x) (h9 : x ≤ 255) : ∀ j, 0 ≤ uF F i x j ∧ uF F i x j ≤ 255 := fun j => by
  unfold uF
  split
  · exact ⟨h0, h9⟩
  · exact h j
/-! places -/
/-- all signs from f up to e -/
def al (C : Int → Int) (q f e : Int) : Prop := ∀ j, f ≤ j → j < e → so (C j) q = true
theorem al_iff {C : Int → Int} {q f e : Int} (h : f ≤ e) : findI (fun j => !so (C j) q) f e = e ↔ al C q f e := by
  have h1 := findI_all (P := fun j => !so (C j) q) (i := f) (n := e) (e := e) h (Int.le_refl _)
  have h2 := (findI_in (P := fun j => !so (C j) q) (i := f) (n := e) h).2
  constructor
  · intro e1 j hj he
    have := h1.mp (by omega) j hj he
    simpa using this
  · intro e1
    have := h1.mpr (fun j hj he => by simpa using e1 j hj he)
    omega
theorem lon_iff {n : Int} {C : Int → Int} {p e : Int} (h1 : p < e) (h2 : e ≤ n) : e - p ≤ lon n C p ↔ al C (oth (sb (C p))) (p + 1) e := by
  have h := findI_all (P := fun e => !so (C e) (oth (sb (C p)))) (i := p + 1) (n := n) (e := e) (by omega) h2
  unfold lon
  constructor
  · intro e1 j hj he
    have := h.mp (by omega) j hj he
    simpa using this
  · intro e1
    have := h.mpr (fun j hj he => by simpa using e1 j hj he)
    omega
set_option maxRecDepth 100000 in
theorem so_sgn : ∀ c : Fin 256, (so ((c.val : Nat) : Int) 11 = true → so ((c.val : Nat) : Int) 12 = true ∧ so ((c.val : Nat) : Int) 2 = false ∧ so ((c.val : Nat) : Int) 7 = false ∧ so ((c.val : Nat) : Int) 14 = false) ∧ (so ((c.val : Nat) : Int) 2 = true → so ((c.val : Nat) : Int) 7 = false ∧ so ((c.val : Nat) : Int) 14 = false) ∧ (so ((c.val : Nat) : Int) 7 = true → so ((c.val : Nat) : Int) 14 = false) ∧ (so ((c.val : Nat) : Int) 14 = decide (kin ((c.val : Nat) : Int) = 25)) ∧ so ((c.val : Nat) : Int) 6 = false := by decide +kernel
theorem so_sg {c : Int} (h0 : 0 ≤ c) (h9 : c ≤ 255) : (so c 11 = true → so c 12 = true ∧ so c 2 = false ∧ so c 7 = false ∧ so c 14 = false) ∧ (so c 2 = true → so c 7 = false ∧ so c 14 = false) ∧ (so c 7 = true → so c 14 = false) ∧ (so c 14 = decide (kin c = 25)) ∧ so c 6 = false := by
  have h := so_sgn ⟨c.toNat, by omega⟩
  have e : ((c.toNat : Nat) : Int) = c := Int.toNat_of_nonneg h0
  rw [e] at h
  exact h
theorem sb0 {c : Int} (h : so c 11 = true) : sb c = 0 := by unfold sb; rw [if_pos h]
theorem sb1 {c : Int} (h : so c 11 = false) (h2 : so c 2 = true) : sb c = 1 := by unfold sb; rw [if_neg (by rw [h]; decide), if_pos h2]
theorem sb2 {c : Int} (h : so c 11 = false) (h2 : so c 2 = false) (h3 : so c 7 = true) : sb c = 2 := by unfold sb; rw [if_neg (by rw [h]; decide), if_neg (by rw [h2]; decide), if_pos h3]
theorem sb3 {c : Int} (h : so c 11 = false) (h2 : so c 2 = false) (h3 : so c 7 = false) (h4 : so c 14 = true) : sb c = 3 := by unfold sb; rw [if_neg (by rw [h]; decide), if_neg (by rw [h2]; decide), if_neg (by rw [h3]; decide), if_pos h4]
theorem sb4 {c : Int} (h : so c 11 = false) (h2 : so c 2 = false) (h3 : so c 7 = false) (h4 : so c 14 = false) : sb c = 4 := by unfold sb; rw [if_neg (by rw [h]; decide), if_neg (by rw [h2]; decide), if_neg (by rw [h3]; decide), if_neg (by rw [h4]; decide)]
theorem al_cons {C : Int → Int} {q f e : Int} (h : f < e) : al C q f e ↔ so (C f) q = true ∧ al C q (f + 1) e := by
  constructor
  · exact fun h1 => ⟨h1 f (Int.le_refl _) h, fun j hj he => h1 j (by omega) he⟩
  · intro h1 j hj he
    rcases (by omega : j = f ∨ f + 1 ≤ j) with z | z
    · rw [z]; exact h1.1
    · exact h1.2 j z he
section SRT
variable {n : Int} {C : Int → Int} {f e : Int}
/-- the sort of a piece, or none -/
def srt (n : Int) (C : Int → Int) (f e : Int) : Int := if e - f ≤ lon n C f then sb (C f) else -1
theorem oth_0 : oth 0 = 12 := by decide
theorem oth_1 : oth 1 = 2 := by decide
theorem oth_2 : oth 2 = 7 := by decide
theorem oth_3 : oth 3 = 14 := by decide
theorem oth_4 : oth 4 = 6 := by decide
theorem so_sp (c q : Int) : so c q = true ∨ so c q = false := by cases so c q <;> simp
theorem srt_0 (h1 : f < e) (h2 : e ≤ n) (a : so (C f) 11 = true) (b : al C 12 f e) : srt n C f e = 0 := by
  unfold srt
  rw [sb0 a, if_pos ((lon_iff h1 h2).mpr (by rw [sb0 a, oth_0]; exact ((al_cons h1).mp b).2))]
theorem srt_1 (h1 : f < e) (h2 : e ≤ n) (hC : 0 ≤ C f ∧ C f ≤ 255) (b : al C 2 f e) : srt n C f e = 1 := by
  have s2 := ((al_cons h1).mp b).1
  have s11 : so (C f) 11 = false := by
    rcases so_sp (C f) 11 with q | q
    · have := ((so_sg hC.1 hC.2).1 q).2.1
      rw [s2] at this
      cases this
    · exact q
  unfold srt
  rw [sb1 s11 s2, if_pos ((lon_iff h1 h2).mpr (by rw [sb1 s11 s2, oth_1]; exact ((al_cons h1).mp b).2))]
theorem srt_2 (h1 : f < e) (h2 : e ≤ n) (hC : 0 ≤ C f ∧ C f ≤ 255) (b : al C 7 f e) : srt n C f e = 2 := by
  have s7 := ((al_cons h1).mp b).1
  have s11 : so (C f) 11 = false := by
    rcases so_sp (C f) 11 with q | q
    · have := ((so_sg hC.1 hC.2).1 q).2.2.1
      rw [s7] at this
      cases this
    · exact q
  have s2 : so (C f) 2 = false := by
    rcases so_sp (C f) 2 with q | q
    · have := ((so_sg hC.1 hC.2).2.1 q).1
      rw [s7] at this
      cases this
    · exact q
  unfold srt
  rw [sb2 s11 s2 s7, if_pos ((lon_iff h1 h2).mpr (by rw [sb2 s11 s2 s7, oth_2]; exact ((al_cons h1).mp b).2))]
theorem srt_3 (h1 : f < e) (h2 : e ≤ n) (hC : 0 ≤ C f ∧ C f ≤ 255) (b : al C 14 f e) : srt n C f e = 3 := by
  have s14 := ((al_cons h1).mp b).1
  have s11 : so (C f) 11 = false := by
    rcases so_sp (C f) 11 with q | q
    · have := ((so_sg hC.1 hC.2).1 q).2.2.2
      rw [s14] at this
      cases this
    · exact q
  have s2 : so (C f) 2 = false := by
    rcases so_sp (C f) 2 with q | q
    · have := ((so_sg hC.1 hC.2).2.1 q).2
      rw [s14] at this
      cases this
    · exact q
  have s7 : so (C f) 7 = false := by
    rcases so_sp (C f) 7 with q | q
    · have := (so_sg hC.1 hC.2).2.2.1 q
      rw [s14] at this
      cases this
    · exact q
  unfold srt
  rw [sb3 s11 s2 s7 s14, if_pos ((lon_iff h1 h2).mpr (by rw [sb3 s11 s2 s7 s14, oth_3]; exact ((al_cons h1).mp b).2))]
theorem srt_4 (h2 : e ≤ n) (he : e = f + 1) (hC : 0 ≤ C f ∧ C f ≤ 255) (a : ¬ (so (C f) 11 = true ∧ al C 12 f e)) (b : ¬ al C 2 f e) (c : ¬ al C 7 f e) (d : ¬ al C 14 f e) : srt n C f e = 4 := by
  have h1 : f < e := by omega
  have hn : ∀ q, al C q (f + 1) e := fun q j hj hje => by omega
  have s : ∀ q, ¬ al C q f e → so (C f) q = false := fun q h => by
    rcases so_sp (C f) q with z | z
    · exact absurd ((al_cons h1).mpr ⟨z, hn q⟩) h
    · exact z
  have s11 : so (C f) 11 = false := by
    rcases so_sp (C f) 11 with q | q
    · exact absurd ⟨q, (al_cons h1).mpr ⟨((so_sg hC.1 hC.2).1 q).1, hn 12⟩⟩ a
    · exact q
  unfold srt
  rw [sb4 s11 (s 2 b) (s 7 c) (s 14 d), if_pos ((lon_iff h1 h2).mpr (hn _))]
theorem srt_n (h1 : f < e) (h2 : e ≤ n) (he : e ≠ f + 1) (hC : ∀ j, 0 ≤ C j ∧ C j ≤ 255) (a : ¬ (so (C f) 11 = true ∧ al C 12 f e)) (b : ¬ al C 2 f e) (c : ¬ al C 7 f e) (d : ¬ al C 14 f e) : srt n C f e = -1 := by
  unfold srt
  rw [if_neg]
  intro z
  have z2 := (lon_iff h1 h2).mp z
  rcases so_sp (C f) 11 with s11 | s11
  · rw [sb0 s11, oth_0] at z2
    exact a ⟨s11, (al_cons h1).mpr ⟨((so_sg (hC f).1 (hC f).2).1 s11).1, z2⟩⟩
  · rcases so_sp (C f) 2 with s2 | s2
    · rw [sb1 s11 s2, oth_1] at z2
      exact b ((al_cons h1).mpr ⟨s2, z2⟩)
    · rcases so_sp (C f) 7 with s7 | s7
      · rw [sb2 s11 s2 s7, oth_2] at z2
        exact c ((al_cons h1).mpr ⟨s7, z2⟩)
      · rcases so_sp (C f) 14 with s14 | s14
        · rw [sb3 s11 s2 s7 s14, oth_3] at z2
          exact d ((al_cons h1).mpr ⟨s14, z2⟩)
        · rw [sb4 s11 s2 s7 s14, oth_4] at z2
          have z3 := z2 (f + 1) (Int.le_refl _) (by omega)
          rw [(so_sg (hC (f + 1)).1 (hC (f + 1)).2).2.2.2.2] at z3
          cases z3
theorem srt_in (h1 : f < e) (h2 : e ≤ n) : -1 ≤ srt n C f e ∧ srt n C f e ≤ 4 := by
  have h := sb_in (C f)
  unfold srt
  split <;> omega
theorem srt_p (h1 : f < e) (h2 : e ≤ n) : srt n C f e < 0 ↔ lon n C f < e - f := by
  have h := sb_in (C f)
  unfold srt
  split <;> omega
end SRT
/-! questions, as the reference tells them -/
set_option maxRecDepth 100000 in
theorem soR : ∀ c : Fin 256, so ((c.val : Nat) : Int) 0 = true ∧ so ((c.val : Nat) : Int) 1 = decide (kin ((c.val : Nat) : Int) = 1 ∨ kin ((c.val : Nat) : Int) = 2 ∨ kin ((c.val : Nat) : Int) = 5) ∧ so ((c.val : Nat) : Int) 2 = decide (kin ((c.val : Nat) : Int) = 9) ∧ so ((c.val : Nat) : Int) 3 = decide ((kin ((c.val : Nat) : Int) = 1 ∨ kin ((c.val : Nat) : Int) = 2 ∨ kin ((c.val : Nat) : Int) = 5) ∨ kin ((c.val : Nat) : Int) = 9) ∧ so ((c.val : Nat) : Int) 4 = decide (kin ((c.val : Nat) : Int) = 1) ∧ so ((c.val : Nat) : Int) 5 = decide (kin ((c.val : Nat) : Int) = 2 ∨ kin ((c.val : Nat) : Int) = 5) ∧ so ((c.val : Nat) : Int) 6 = false ∧ so ((c.val : Nat) : Int) 7 = decide ((8 < ((c.val : Nat) : Int) ∧ ((c.val : Nat) : Int) < 14) ∨ (27 < ((c.val : Nat) : Int) ∧ ((c.val : Nat) : Int) < 33)) ∧ so ((c.val : Nat) : Int) 8 = decide (kin ((c.val : Nat) : Int) = 12) ∧ so ((c.val : Nat) : Int) 9 = decide (kin ((c.val : Nat) : Int) = 15) ∧ so ((c.val : Nat) : Int) 10 = decide (kin ((c.val : Nat) : Int) = 21 ∨ kin ((c.val : Nat) : Int) = 22 ∨ kin ((c.val : Nat) : Int) = 29 ∨ kin ((c.val : Nat) : Int) = 30 ∨ ((c.val : Nat) : Int) = 60 ∨ ((c.val : Nat) : Int) = 62) ∧ so ((c.val : Nat) : Int) 11 = decide ((kin ((c.val : Nat) : Int) = 1 ∨ kin ((c.val : Nat) : Int) = 2 ∨ kin ((c.val : Nat) : Int) = 5) ∨ kin ((c.val : Nat) : Int) = 23 ∨ kin ((c.val : Nat) : Int) = 26) ∧ so ((c.val : Nat) : Int) 12 = (so ((c.val : Nat) : Int) 11 || decide (kin ((c.val : Nat) : Int) = 9) || so ((c.val : Nat) : Int) 13) ∧ so ((c.val : Nat) : Int) 13 = decide (kin ((c.val : Nat) : Int) = 16 ∨ (kin ((c.val : Nat) : Int) = 15 ∧ ¬ ((8 < ((c.val : Nat) : Int) ∧ ((c.val : Nat) : Int) < 14) ∨ (27 < ((c.val : Nat) : Int) ∧ ((c.val : Nat) : Int) < 33)))) := by decide +kernel
theorem soR' {c : Int} (h0 : 0 ≤ c) (h9 : c ≤ 255) : so c 0 = true ∧ so c 1 = decide (kin c = 1 ∨ kin c = 2 ∨ kin c = 5) ∧ so c 2 = decide (kin c = 9) ∧ so c 3 = decide ((kin c = 1 ∨ kin c = 2 ∨ kin c = 5) ∨ kin c = 9) ∧ so c 4 = decide (kin c = 1) ∧ so c 5 = decide (kin c = 2 ∨ kin c = 5) ∧ so c 6 = false ∧ so c 7 = decide ((8 < c ∧ c < 14) ∨ (27 < c ∧ c < 33)) ∧ so c 8 = decide (kin c = 12) ∧ so c 9 = decide (kin c = 15) ∧ so c 10 = decide (kin c = 21 ∨ kin c = 22 ∨ kin c = 29 ∨ kin c = 30 ∨ c = 60 ∨ c = 62) ∧ so c 11 = decide ((kin c = 1 ∨ kin c = 2 ∨ kin c = 5) ∨ kin c = 23 ∨ kin c = 26) ∧ so c 12 = (so c 11 || decide (kin c = 9) || so c 13) ∧ so c 13 = decide (kin c = 16 ∨ (kin c = 15 ∧ ¬ ((8 < c ∧ c < 14) ∨ (27 < c ∧ c < 33)))) := by
  have h := soR ⟨c.toNat, by omega⟩
  have e : ((c.toNat : Nat) : Int) = c := Int.toNat_of_nonneg h0
  rw [e] at h
  exact h
theorem bq_d {q : Bool} {P : Prop} [Decidable P] (h : q = true ↔ P) : q = decide P := by
  cases q with
  | true => exact (decide_eq_true (h.mp rfl)).symm
  | false => exact (decide_eq_false (fun p => by have := h.mpr p; cases this)).symm
