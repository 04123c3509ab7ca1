/-! the law's answers: their state; what the handlers catch -/
/-- the class became another one, the answer too, nothing else -/
def dW (G : gK) (w : wd) (K : kA) (M : kM) (o : Nat) (w' : wd) : Prop := ∃ (M' : kM) (y' : Int64) (sv' : Value), kS G w' K M' ∧ M'.2.2.2.2 = M.2.2.2.2 ∧ w' o = some (eO 4 [.long y', sv']) ∧ fr (fun q => kP K q ∨ q = o) w w'
theorem dW.rf {G : gK} {w : wd} {K : kA} {M : kM} {o : Nat} {y : Int64} {sv : Value} (h : kS G w K M) (ho : w o = some (eO 4 [.long y, sv])) : dW G w K M o w := ⟨M, y, sv, h, rfl, ho, fr.rf⟩
theorem dW.of {G : gK} {w w9 : wd} {K : kA} {M M9 : kM} {o : Nat} {y' : Int64} {sv' : Value} (h : kS G w9 K M9) (hk : M9.2.2.2.2 = M.2.2.2.2) (hf : fr (kP K) w w9) (hd : ¬ kP K o) : dW G w K M o (ws1 w9 o (eO 4 [.long y', sv'])) :=
  ⟨M9, y', sv', h.fr (P := fun q => q = o) (fr.rf.set rfl) (fun q hq e => hd (by rw [← e]; exact hq)), hk, ws1_s, (hf.mono (fun _ h => Or.inl h)).set (Or.inr rfl)⟩
/-- an answer: 1 and nothing is other, or 0 and the number in the answer is V -/
def dQ (w : wd) (oc : Nat) (z : Int) (P : Prop) (V : Int64) (sv : Value) (w' : wd) : Prop := (z = 1 ∧ ¬ P ∧ w' = w) ∨ (z = 0 ∧ P ∧ w' = ws1 w oc (eO 4 [.long V, sv]))
/-- the answer is another one, the class's own state is as it was, nothing else is other -/
def dV (G : gK) (w : wd) (K : kA) (M : kM) (o : Nat) (w' : wd) : Prop := ∃ (y' : Int64) (sv' : Value), kS G w' K M ∧ w' o = some (eO 4 [.long y', sv']) ∧ fr (fun q => kP K q ∨ q = o) w w'
theorem dV.rf {G : gK} {w : wd} {K : kA} {M : kM} {o : Nat} {y : Int64} {sv : Value} (h : kS G w K M) (ho : w o = some (eO 4 [.long y, sv])) : dV G w K M o w := ⟨y, sv, h, ho, fr.rf⟩
theorem dV.of {G : gK} {w w9 : wd} {K : kA} {M : kM} {o : Nat} {y' : Int64} {sv' : Value} (h : kS G w9 K M) (hf : fr (kP K) w w9) (hd : ¬ kP K o) : dV G w K M o (ws1 w9 o (eO 4 [.long y', sv'])) :=
  ⟨y', sv', h.fr (P := fun q => q = o) (fr.rf.set rfl) (fun q hq e => hd (by rw [← e]; exact hq)), ws1_s, (hf.mono (fun _ h => Or.inl h)).set (Or.inr rfl)⟩
/-- an act: 1 or 2 and nothing is other, or 0 and it came to x, whose number is in the answer -/
def dA (G : gK) (w : wd) (K : kA) (M : kM) (o : Nat) (P1 P2 : Prop) (x : oT) (sv : Value) (z : Int) (w' : wd) : Prop := (z = 1 ∧ ¬ P1 ∧ w' = w) ∨ (z = 2 ∧ P1 ∧ ¬ P2 ∧ w' = w) ∨ (z = 0 ∧ P1 ∧ P2 ∧ ∃ (z2 : Int) (M' : kM), aDo M x z2 M' ∧ kS G w' K M' ∧ w' o = some (eO 4 [.long (zI z2).toInt64, sv]) ∧ fr (fun q => kP K q ∨ q = o) w w')
theorem dA.of {G : gK} {w w9 : wd} {K : kA} {M M9 : kM} {o : Nat} {P1 P2 : Prop} {x : oT} {sv : Value} {z2 : Int} (p1 : P1) (p2 : P2) (h : kS G w9 K M9) (ha : aDo M x z2 M9) (hf : fr (kP K) w w9) (hd : ¬ kP K o) : dA G w K M o P1 P2 x sv 0 (ws1 w9 o (eO 4 [.long (zI z2).toInt64, sv])) :=
  Or.inr (Or.inr ⟨rfl, p1, p2, z2, M9, ha, h.fr (P := fun q => q = o) (fr.rf.set rfl) (fun q hq e => hd (by rw [← e]; exact hq)), ws1_s, (hf.mono (fun _ h => Or.inl h)).set (Or.inr rfl)⟩)
/-- a question of texts: 1 or 2 and nothing is other, or 0, and the number in the answer is told by Q, the class's own state is as it was -/
def dT (G : gK) (w : wd) (K : kA) (M : kM) (o : Nat) (P1 P2 : Prop) (Q : Int64 → Prop) (sv : Value) (z : Int) (w' : wd) : Prop := (z = 1 ∧ ¬ P1 ∧ w' = w) ∨ (z = 2 ∧ P1 ∧ ¬ P2 ∧ w' = w) ∨ (z = 0 ∧ P1 ∧ P2 ∧ ∃ y : Int64, Q y ∧ kS G w' K M ∧ w' o = some (eO 4 [.long y, sv]) ∧ fr (fun q => kP K q ∨ q = o) w w')
theorem dT.of {G : gK} {w w9 : wd} {K : kA} {M : kM} {o : Nat} {P1 P2 : Prop} {Q : Int64 → Prop} {sv : Value} {y : Int64} (p1 : P1) (p2 : P2) (h : kS G w9 K M) (hq : Q y) (hf : fr (kP K) w w9) (hd : ¬ kP K o) : dT G w K M o P1 P2 Q sv 0 (ws1 w9 o (eO 4 [.long y, sv])) :=
  Or.inr (Or.inr ⟨rfl, p1, p2, y, hq, h.fr (P := fun q => q = o) (fr.rf.set rfl) (fun q hq e => hd (by rw [← e]; exact hq)), ws1_s, (hf.mono (fun _ h => Or.inl h)).set (Or.inr rfl)⟩)
section GCT
variable {b : gBt} {l : Launch} {s0 : State} {G : gK} {cc : ByteArray} {own : String} {nL : Nat} {rm : Room} {k n pc : Nat} {L : List (Nat × Value)} {st rest : List Value} {w : wd}
theorem k_ncA {s : State} (h0 : gS0 s0) (hE : gEnv s0 G s) : va_Nc "java/lang/IllegalArgumentException" "java/lang/IndexOutOfBoundsException" s := g_nc h0 hE (fun _ h => va_Nc.of (flat_of_before _ h (Cond.not (.castable "java/lang/IllegalArgumentException" "java/lang/IndexOutOfBoundsException")) (by decide +kernel)))
theorem x_ct1 (Z : gAm b l s0 G cc own nL rm) {ret : Option FieldType} {nm : String} {a0 a1 a2 a3 : Nat} {Rt : Option Value → wd → Prop} {Xt : String → wd → Prop} (E : gQm b s0 G ret rm nm (tableOf [(a0, a1, a2, a3)]) Rt Xt) {X : String} (hlink : Cond.classLink own a3 X ∈ gT) (hcast : Cond.castable X X ∈ gT) (hc : covers ⟨a0, a1, a2, a3⟩ pc = true) (hz : a3 ≠ 0) (kk : ∀ q : Nat, gX b s0 G k n a2 L [rv q] w) : gE b s0 G k n pc L st w X :=
  x_catch Z E [] ⟨a0, a1, a2, a3⟩ [] rfl (fun _ h => absurd h List.not_mem_nil) hc hz hlink hcast kk
theorem x_ct2 (Z : gAm b l s0 G cc own nL rm) {ret : Option FieldType} {nm : String} {a0 a1 a2 a3 : Nat} {q9 : Nat × Nat × Nat × Nat} {Rt : Option Value → wd → Prop} {Xt : String → wd → Prop} (E : gQm b s0 G ret rm nm (tableOf [(a0, a1, a2, a3), q9]) Rt Xt) {X : String} (hlink : Cond.classLink own a3 X ∈ gT) (hcast : Cond.castable X X ∈ gT) (hc : covers ⟨a0, a1, a2, a3⟩ pc = true) (hz : a3 ≠ 0) (kk : ∀ q : Nat, gX b s0 G k n a2 L [rv q] w) : gE b s0 G k n pc L st w X :=
  x_catch Z E [] ⟨a0, a1, a2, a3⟩ [⟨q9.1, q9.2.1, q9.2.2.1, q9.2.2.2⟩] rfl (fun _ h => absurd h List.not_mem_nil) hc hz hlink hcast kk
theorem x_ct3 (Z : gAm b l s0 G cc own nL rm) {ret : Option FieldType} {nm : String} {a0 a1 a2 a3 b0 b1 b2 b3 : Nat} {Rt : Option Value → wd → Prop} {Xt : String → wd → Prop} (E : gQm b s0 G ret rm nm (tableOf [(b0, b1, b2, b3), (a0, a1, a2, a3)]) Rt Xt) (hl1 : Cond.classLink own b3 "java/lang/IndexOutOfBoundsException" ∈ gT) (hz1 : b3 ≠ 0) (hlink : Cond.classLink own a3 "java/lang/IllegalArgumentException" ∈ gT) (hcast : Cond.castable "java/lang/IllegalArgumentException" "java/lang/IllegalArgumentException" ∈ gT) (hc : covers ⟨a0, a1, a2, a3⟩ pc = true) (hz : a3 ≠ 0) (kk : ∀ q : Nat, gX b s0 G k n a2 L [rv q] w) : gE b s0 G k n pc L st w "java/lang/IllegalArgumentException" := by
  have hnc : va_Nc "java/lang/IllegalArgumentException" "java/lang/IndexOutOfBoundsException" (bs b) := by
    obtain ⟨-, -, -, h0, hE, -⟩ := Z
    exact k_ncA h0 hE
  exact x_catch Z E [⟨b0, b1, b2, b3⟩] ⟨a0, a1, a2, a3⟩ [] rfl (fun z hz9 => by
    obtain rfl := List.mem_singleton.mp hz9
    exact Or.inr ⟨hz1, _, hl1, hnc⟩) hc hz hlink hcast kk
theorem x_lcmpE (Z : gAm b l s0 G cc own nL rm) {x y : Int64} (d : decode cc pc = .ok (.lcmp, 1)) (h : x = y) (kk : gX b s0 G k n (pc + 1) L (iv 0 :: st) w) : gX b s0 G k n pc L (.long y :: .long x :: st) w := by
  obtain ⟨hx, hb, -⟩ := Z
  subst h
  have e : lg_cmp x x = 0 := by simp [lg_cmp]
  exact fun H locs ls hP hS hl => W.lcmp hx hb d (by rw [e, show (Value.int 0 : Value) = iv 0 from congrArg Value.int zI_0.symm]; exact kk H locs ls hP hS hl)
end GCT
